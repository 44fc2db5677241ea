/-! THE REFERENCE: the text of a park -/
abbrev W_child : List Nat := [99, 104, 105, 108, 100]
abbrev W_widower : List Nat := [119, 105, 100, 111, 119, 101, 114]
abbrev W_keeper : List Nat := [107, 101, 101, 112, 101, 114]
abbrev W_grandson : List Nat := [103, 114, 97, 110, 100, 115, 111, 110]
abbrev W_scholar : List Nat := [115, 99, 104, 111, 108, 97, 114]
abbrev W_lady : List Nat := [108, 97, 100, 121]
abbrev W_out : List Nat := [111, 117, 116]
abbrev W_dark : List Nat := [100, 97, 114, 107]
abbrev W_lamp : List Nat := [108, 97, 109, 112]
abbrev W_peep : List Nat := [112, 101, 101, 112]
abbrev W_at : List Nat := [97, 116]
abbrev W_age : List Nat := [97, 103, 101]
abbrev W_wit : List Nat := [119, 105, 116]
abbrev W_seeks : List Nat := [115, 101, 101, 107, 115]
abbrev W_cover : List Nat := [99, 111, 118, 101, 114]
abbrev W_is : List Nat := [105, 115]
/-- the token at q is the name W -/
abbrev nm (B : Nat → Nat) (t q : Nat) (W : List Nat) : Prop := kd B t q = 1 ∧ en B t q = q + W.length ∧ ∀ i, i < W.length → B (q + i) = W.getD i 0
theorem nm_child {B : Nat → Nat} {t q : Nat} : nm B t q W_child ↔ (kd B t q = 1 ∧ en B t q = q + 5 ∧ B q = 99 ∧ B (q + 1) = 104 ∧ B (q + 2) = 105 ∧ B (q + 3) = 108 ∧ B (q + 4) = 100) := by
  constructor
  · intro h
    exact ⟨h.1, h.2.1, h.2.2 0 (by decide), h.2.2 1 (by decide), h.2.2 2 (by decide), h.2.2 3 (by decide), h.2.2 4 (by decide)⟩
  · rintro ⟨h1, h2, a0, a1, a2, a3, a4⟩
    refine ⟨h1, h2, fun i hi => ?_⟩
    have hi' : i < 5 := hi
    rcases (show i = 0 ∨ i = 1 ∨ i = 2 ∨ i = 3 ∨ i = 4 by omega) with rfl | rfl | rfl | rfl | rfl
    · exact a0
    · exact a1
    · exact a2
    · exact a3
    · exact a4
theorem nm_widower {B : Nat → Nat} {t q : Nat} : nm B t q W_widower ↔ (kd B t q = 1 ∧ en B t q = q + 7 ∧ B q = 119 ∧ B (q + 1) = 105 ∧ B (q + 2) = 100 ∧ B (q + 3) = 111 ∧ B (q + 4) = 119 ∧ B (q + 5) = 101 ∧ B (q + 6) = 114) := by
  constructor
  · intro h
    exact ⟨h.1, h.2.1, h.2.2 0 (by decide), h.2.2 1 (by decide), h.2.2 2 (by decide), h.2.2 3 (by decide), h.2.2 4 (by decide), h.2.2 5 (by decide), h.2.2 6 (by decide)⟩
  · rintro ⟨h1, h2, a0, a1, a2, a3, a4, a5, a6⟩
    refine ⟨h1, h2, fun i hi => ?_⟩
    have hi' : i < 7 := hi
    rcases (show i = 0 ∨ i = 1 ∨ i = 2 ∨ i = 3 ∨ i = 4 ∨ i = 5 ∨ i = 6 by omega) with rfl | rfl | rfl | rfl | rfl | rfl | rfl
    · exact a0
    · exact a1
    · exact a2
    · exact a3
    · exact a4
    · exact a5
    · exact a6
theorem nm_keeper {B : Nat → Nat} {t q : Nat} : nm B t q W_keeper ↔ (kd B t q = 1 ∧ en B t q = q + 6 ∧ B q = 107 ∧ B (q + 1) = 101 ∧ B (q + 2) = 101 ∧ B (q + 3) = 112 ∧ B (q + 4) = 101 ∧ B (q + 5) = 114) := by
  constructor
  · intro h
    exact ⟨h.1, h.2.1, h.2.2 0 (by decide), h.2.2 1 (by decide), h.2.2 2 (by decide), h.2.2 3 (by decide), h.2.2 4 (by decide), h.2.2 5 (by decide)⟩
  · rintro ⟨h1, h2, a0, a1, a2, a3, a4, a5⟩
    refine ⟨h1, h2, fun i hi => ?_⟩
    have hi' : i < 6 := hi
    rcases (show i = 0 ∨ i = 1 ∨ i = 2 ∨ i = 3 ∨ i = 4 ∨ i = 5 by omega) with rfl | rfl | rfl | rfl | rfl | rfl
    · exact a0
    · exact a1
    · exact a2
    · exact a3
    · exact a4
    · exact a5
theorem nm_grandson {B : Nat → Nat} {t q : Nat} : nm B t q W_grandson ↔ (kd B t q = 1 ∧ en B t q = q + 8 ∧ B q = 103 ∧ B (q + 1) = 114 ∧ B (q + 2) = 97 ∧ B (q + 3) = 110 ∧ B (q + 4) = 100 ∧ B (q + 5) = 115 ∧ B (q + 6) = 111 ∧ B (q + 7) = 110) := by
  constructor
  · intro h
    exact ⟨h.1, h.2.1, h.2.2 0 (by decide), h.2.2 1 (by decide), h.2.2 2 (by decide), h.2.2 3 (by decide), h.2.2 4 (by decide), h.2.2 5 (by decide), h.2.2 6 (by decide), h.2.2 7 (by decide)⟩
  · rintro ⟨h1, h2, a0, a1, a2, a3, a4, a5, a6, a7⟩
    refine ⟨h1, h2, fun i hi => ?_⟩
    have hi' : i < 8 := hi
    rcases (show i = 0 ∨ i = 1 ∨ i = 2 ∨ i = 3 ∨ i = 4 ∨ i = 5 ∨ i = 6 ∨ i = 7 by omega) with rfl | rfl | rfl | rfl | rfl | rfl | rfl | rfl
    · exact a0
    · exact a1
    · exact a2
    · exact a3
    · exact a4
    · exact a5
    · exact a6
    · exact a7
theorem nm_scholar {B : Nat → Nat} {t q : Nat} : nm B t q W_scholar ↔ (kd B t q = 1 ∧ en B t q = q + 7 ∧ B q = 115 ∧ B (q + 1) = 99 ∧ B (q + 2) = 104 ∧ B (q + 3) = 111 ∧ B (q + 4) = 108 ∧ B (q + 5) = 97 ∧ B (q + 6) = 114) := by
  constructor
  · intro h
    exact ⟨h.1, h.2.1, h.2.2 0 (by decide), h.2.2 1 (by decide), h.2.2 2 (by decide), h.2.2 3 (by decide), h.2.2 4 (by decide), h.2.2 5 (by decide), h.2.2 6 (by decide)⟩
  · rintro ⟨h1, h2, a0, a1, a2, a3, a4, a5, a6⟩
    refine ⟨h1, h2, fun i hi => ?_⟩
    have hi' : i < 7 := hi
    rcases (show i = 0 ∨ i = 1 ∨ i = 2 ∨ i = 3 ∨ i = 4 ∨ i = 5 ∨ i = 6 by omega) with rfl | rfl | rfl | rfl | rfl | rfl | rfl
    · exact a0
    · exact a1
    · exact a2
    · exact a3
    · exact a4
    · exact a5
    · exact a6
theorem nm_lady {B : Nat → Nat} {t q : Nat} : nm B t q W_lady ↔ (kd B t q = 1 ∧ en B t q = q + 4 ∧ B q = 108 ∧ B (q + 1) = 97 ∧ B (q + 2) = 100 ∧ B (q + 3) = 121) := by
  constructor
  · intro h
    exact ⟨h.1, h.2.1, h.2.2 0 (by decide), h.2.2 1 (by decide), h.2.2 2 (by decide), h.2.2 3 (by decide)⟩
  · rintro ⟨h1, h2, a0, a1, a2, a3⟩
    refine ⟨h1, h2, fun i hi => ?_⟩
    have hi' : i < 4 := hi
    rcases (show i = 0 ∨ i = 1 ∨ i = 2 ∨ i = 3 by omega) with rfl | rfl | rfl | rfl
    · exact a0
    · exact a1
    · exact a2
    · exact a3
theorem nm_out {B : Nat → Nat} {t q : Nat} : nm B t q W_out ↔ (kd B t q = 1 ∧ en B t q = q + 3 ∧ B q = 111 ∧ B (q + 1) = 117 ∧ B (q + 2) = 116) := by
  constructor
  · intro h
    exact ⟨h.1, h.2.1, h.2.2 0 (by decide), h.2.2 1 (by decide), h.2.2 2 (by decide)⟩
  · rintro ⟨h1, h2, a0, a1, a2⟩
    refine ⟨h1, h2, fun i hi => ?_⟩
    have hi' : i < 3 := hi
    rcases (show i = 0 ∨ i = 1 ∨ i = 2 by omega) with rfl | rfl | rfl
    · exact a0
    · exact a1
    · exact a2
theorem nm_dark {B : Nat → Nat} {t q : Nat} : nm B t q W_dark ↔ (kd B t q = 1 ∧ en B t q = q + 4 ∧ B q = 100 ∧ B (q + 1) = 97 ∧ B (q + 2) = 114 ∧ B (q + 3) = 107) := by
  constructor
  · intro h
    exact ⟨h.1, h.2.1, h.2.2 0 (by decide), h.2.2 1 (by decide), h.2.2 2 (by decide), h.2.2 3 (by decide)⟩
  · rintro ⟨h1, h2, a0, a1, a2, a3⟩
    refine ⟨h1, h2, fun i hi => ?_⟩
    have hi' : i < 4 := hi
    rcases (show i = 0 ∨ i = 1 ∨ i = 2 ∨ i = 3 by omega) with rfl | rfl | rfl | rfl
    · exact a0
    · exact a1
    · exact a2
    · exact a3
theorem nm_lamp {B : Nat → Nat} {t q : Nat} : nm B t q W_lamp ↔ (kd B t q = 1 ∧ en B t q = q + 4 ∧ B q = 108 ∧ B (q + 1) = 97 ∧ B (q + 2) = 109 ∧ B (q + 3) = 112) := by
  constructor
  · intro h
    exact ⟨h.1, h.2.1, h.2.2 0 (by decide), h.2.2 1 (by decide), h.2.2 2 (by decide), h.2.2 3 (by decide)⟩
  · rintro ⟨h1, h2, a0, a1, a2, a3⟩
    refine ⟨h1, h2, fun i hi => ?_⟩
    have hi' : i < 4 := hi
    rcases (show i = 0 ∨ i = 1 ∨ i = 2 ∨ i = 3 by omega) with rfl | rfl | rfl | rfl
    · exact a0
    · exact a1
    · exact a2
    · exact a3
theorem nm_peep {B : Nat → Nat} {t q : Nat} : nm B t q W_peep ↔ (kd B t q = 1 ∧ en B t q = q + 4 ∧ B q = 112 ∧ B (q + 1) = 101 ∧ B (q + 2) = 101 ∧ B (q + 3) = 112) := by
  constructor
  · intro h
    exact ⟨h.1, h.2.1, h.2.2 0 (by decide), h.2.2 1 (by decide), h.2.2 2 (by decide), h.2.2 3 (by decide)⟩
  · rintro ⟨h1, h2, a0, a1, a2, a3⟩
    refine ⟨h1, h2, fun i hi => ?_⟩
    have hi' : i < 4 := hi
    rcases (show i = 0 ∨ i = 1 ∨ i = 2 ∨ i = 3 by omega) with rfl | rfl | rfl | rfl
    · exact a0
    · exact a1
    · exact a2
    · exact a3
theorem nm_at {B : Nat → Nat} {t q : Nat} : nm B t q W_at ↔ (kd B t q = 1 ∧ en B t q = q + 2 ∧ B q = 97 ∧ B (q + 1) = 116) := by
  constructor
  · intro h
    exact ⟨h.1, h.2.1, h.2.2 0 (by decide), h.2.2 1 (by decide)⟩
  · rintro ⟨h1, h2, a0, a1⟩
    refine ⟨h1, h2, fun i hi => ?_⟩
    have hi' : i < 2 := hi
    rcases (show i = 0 ∨ i = 1 by omega) with rfl | rfl
    · exact a0
    · exact a1
theorem nm_age {B : Nat → Nat} {t q : Nat} : nm B t q W_age ↔ (kd B t q = 1 ∧ en B t q = q + 3 ∧ B q = 97 ∧ B (q + 1) = 103 ∧ B (q + 2) = 101) := by
  constructor
  · intro h
    exact ⟨h.1, h.2.1, h.2.2 0 (by decide), h.2.2 1 (by decide), h.2.2 2 (by decide)⟩
  · rintro ⟨h1, h2, a0, a1, a2⟩
    refine ⟨h1, h2, fun i hi => ?_⟩
    have hi' : i < 3 := hi
    rcases (show i = 0 ∨ i = 1 ∨ i = 2 by omega) with rfl | rfl | rfl
    · exact a0
    · exact a1
    · exact a2
theorem nm_wit {B : Nat → Nat} {t q : Nat} : nm B t q W_wit ↔ (kd B t q = 1 ∧ en B t q = q + 3 ∧ B q = 119 ∧ B (q + 1) = 105 ∧ B (q + 2) = 116) := by
  constructor
  · intro h
    exact ⟨h.1, h.2.1, h.2.2 0 (by decide), h.2.2 1 (by decide), h.2.2 2 (by decide)⟩
  · rintro ⟨h1, h2, a0, a1, a2⟩
    refine ⟨h1, h2, fun i hi => ?_⟩
    have hi' : i < 3 := hi
    rcases (show i = 0 ∨ i = 1 ∨ i = 2 by omega) with rfl | rfl | rfl
    · exact a0
    · exact a1
    · exact a2
theorem nm_seeks {B : Nat → Nat} {t q : Nat} : nm B t q W_seeks ↔ (kd B t q = 1 ∧ en B t q = q + 5 ∧ B q = 115 ∧ B (q + 1) = 101 ∧ B (q + 2) = 101 ∧ B (q + 3) = 107 ∧ B (q + 4) = 115) := by
  constructor
  · intro h
    exact ⟨h.1, h.2.1, h.2.2 0 (by decide), h.2.2 1 (by decide), h.2.2 2 (by decide), h.2.2 3 (by decide), h.2.2 4 (by decide)⟩
  · rintro ⟨h1, h2, a0, a1, a2, a3, a4⟩
    refine ⟨h1, h2, fun i hi => ?_⟩
    have hi' : i < 5 := hi
    rcases (show i = 0 ∨ i = 1 ∨ i = 2 ∨ i = 3 ∨ i = 4 by omega) with rfl | rfl | rfl | rfl | rfl
    · exact a0
    · exact a1
    · exact a2
    · exact a3
    · exact a4
theorem nm_cover {B : Nat → Nat} {t q : Nat} : nm B t q W_cover ↔ (kd B t q = 1 ∧ en B t q = q + 5 ∧ B q = 99 ∧ B (q + 1) = 111 ∧ B (q + 2) = 118 ∧ B (q + 3) = 101 ∧ B (q + 4) = 114) := by
  constructor
  · intro h
    exact ⟨h.1, h.2.1, h.2.2 0 (by decide), h.2.2 1 (by decide), h.2.2 2 (by decide), h.2.2 3 (by decide), h.2.2 4 (by decide)⟩
  · rintro ⟨h1, h2, a0, a1, a2, a3, a4⟩
    refine ⟨h1, h2, fun i hi => ?_⟩
    have hi' : i < 5 := hi
    rcases (show i = 0 ∨ i = 1 ∨ i = 2 ∨ i = 3 ∨ i = 4 by omega) with rfl | rfl | rfl | rfl | rfl
    · exact a0
    · exact a1
    · exact a2
    · exact a3
    · exact a4
theorem nm_is {B : Nat → Nat} {t q : Nat} : nm B t q W_is ↔ (kd B t q = 1 ∧ en B t q = q + 2 ∧ B q = 105 ∧ B (q + 1) = 115) := by
  constructor
  · intro h
    exact ⟨h.1, h.2.1, h.2.2 0 (by decide), h.2.2 1 (by decide)⟩
  · rintro ⟨h1, h2, a0, a1⟩
    refine ⟨h1, h2, fun i hi => ?_⟩
    have hi' : i < 2 := hi
    rcases (show i = 0 ∨ i = 1 by omega) with rfl | rfl
    · exact a0
    · exact a1
abbrev PR : Type := Nat ⊕ (Nat × Row)
abbrev isN (B : Nat → Nat) (t m q : Nat) : Prop := kd B t q = 2 ∧ en B t q ≤ q + 3 ∧ vl B t q ≤ m
abbrev isC (B : Nat → Nat) (t q : Nat) : Prop := kd B t q = 3 ∧ B q = 59
def kdW (B : Nat → Nat) (t q : Nat) : Option Nat := if nm B t q W_child then some 0 else if nm B t q W_widower then some 1 else if nm B t q W_keeper then some 2 else if nm B t q W_grandson then some 3 else if nm B t q W_scholar then some 4 else if nm B t q W_lady then some 5 else none
def lwW (B : Nat → Nat) (t q : Nat) : Option Nat := if nm B t q W_out then some 0 else if nm B t q W_dark then some 1 else if nm B t q W_lamp then some 2 else if nm B t q W_peep then some 3 else none
def seK (B : Nat → Nat) (t : Nat) (f : Row) (k a w p q : Nat) : PR := if nm B t q W_seeks then .inr (nx B t q, adm f k a w p 0) else .inr (q, adm f k a w p 1)
def wtK (B : Nat → Nat) (t : Nat) (f : Row) (k a p q : Nat) : PR := if nm B t q W_wit then (if isN B t 9 (nx B t q) then seK B t f k a (vl B t (nx B t q)) p (nx B t (nx B t q)) else .inl (nx B t q)) else seK B t f k a 0 p q
def agK (B : Nat → Nat) (t : Nat) (f : Row) (k p q : Nat) : PR := if nm B t q W_age then (if isN B t 99 (nx B t q) then wtK B t f k (vl B t (nx B t q)) p (nx B t (nx B t q)) else .inl (nx B t q)) else wtK B t f k 0 p q
def atK (B : Nat → Nat) (t : Nat) (f : Row) (k q : Nat) : PR := if isN B t 11 q then agK B t f k (vl B t q) (nx B t q) else .inl q
def peK (B : Nat → Nat) (t : Nat) (f : Row) (k q : Nat) : PR := if nn f < 8 then (if nm B t (nx B t q) W_at then atK B t f k (nx B t (nx B t q)) else .inl (nx B t q)) else .inl q
def laK (B : Nat → Nat) (t : Nat) (f : Row) (i q : Nat) : PR := if isN B t (lm i) (nx B t q) then .inr (nx B t (nx B t q), upd f (3 + i) (nI (vl B t (nx B t q)))) else .inl (nx B t q)
def cvK (B : Nat → Nat) (t : Nat) (f : Row) (p q : Nat) : PR := if nm B t q W_is then (if isN B t 9 (nx B t q) then .inr (nx B t (nx B t q), upd f (7 + p) (nI (vl B t (nx B t q)))) else .inl (nx B t q)) else .inl q
def coK (B : Nat → Nat) (t : Nat) (f : Row) (q : Nat) : PR := if isN B t 11 (nx B t q) then cvK B t f (vl B t (nx B t q)) (nx B t (nx B t q)) else .inl (nx B t q)
def stK (B : Nat → Nat) (t : Nat) : PR → PR
  | .inl e => .inl e
  | .inr r => if isC B t r.1 then .inr (nx B t r.1, r.2) else .inl r.1
def beK (B : Nat → Nat) (t : Nat) (f : Row) (q : Nat) : PR := match kdW B t q with
  | some k => peK B t f k q
  | none => match lwW B t q with
    | some i => laK B t f i q
    | none => if nm B t q W_cover then coK B t f q else .inl q
def itm (B : Nat → Nat) (t : Nat) (f : Row) (q : Nat) : PR := stK B t (beK B t f q)
def prK (B : Nat → Nat) (t : Nat) : Nat → Nat → Row → Nat ⊕ Row
  | 0, _, f => .inr f
  | k + 1, q, f => if kd B t q = 0 then .inr f else match itm B t f q with
    | .inl e => .inl e
    | .inr r => prK B t k r.1 r.2
/-- the row is 0 behind the last of the people -/
def Zf (f : Row) : Prop := ∀ j, 19 + 6 * nn f ≤ j → j < 67 → f j = nI 0
def PK (σ : Store) (t : Nat) (b : Row) (r : PR) : Store → Prop := fun σ' => match r with
  | .inl e => e ≤ t ∧ ∃ g, σ' = mS (tS σ t (nI 1) e) g b
  | .inr r => r.1 ≤ t ∧ σ' = mS (tS σ t (nI 0) r.1) r.2 b
theorem m_nextT (σ : Store) (f b : Row) {t : Nat} (hT : TP σ t) {w : Int32} {q : Nat} (hq : q ≤ t) {q' : Nat} (e : nx (Bt σ) t q = q') : Ct ΛM mt_Md_nextToken 1 [.ref 0] (mS (tS σ t w q) f b) (PU (mS (tS σ t w q') f b)) := by
  subst e
  exact m_next σ f b hT _ _ _ w (en (Bt σ) t q) (en_b hq).2.1
set_option maxRecDepth 20000 in
theorem m_needsW (σ : Store) (f b : Row) {t : Nat} (hT : TP σ t) (x : Int32) (q : Nat) : Ct ΛM mt_Md_needs 2 [.ref 0, .int x] (mS (kS σ (nI (kd (Bt σ) t q)) (nI q) (nI (en (Bt σ) t q)) (nI (vl (Bt σ) t q)) (nI 1)) f b) (PU (mS (tS σ t (nI 1) q) f b)) := by
  refine Ct.of (by decide) (Nat.le_of_ble_eq_true rfl) (fun X hR => ?_)
  show G (ΛM, mt_Md_needs, 2) X (mS (kS σ (nI (kd (Bt σ) t q)) (nI q) (nI (en (Bt σ) t q)) (nI (vl (Bt σ) t q)) (nI 1)) f b) [some (.ref 0), some (.int x)] [] 0
  refine g_aload_n (by decide +kernel : decode prog_10_method_18_code 0 = .ok (.aload_n 0, 1)) rfl ?_
  refine g_aload_n (by decide +kernel : decode prog_10_method_18_code 1 = .ok (.aload_n 0, 1)) rfl ?_
  refine g_getI (by decide +kernel : decode prog_10_method_18_code 2 = .ok (.getfield 90, 3)) fl_Md_90.get rfl rfl ?_
  refine g_top (w := nI 1) (rfl) ?_
  refine g_if_neN (tgt := 12) (by decide +kernel : decode prog_10_method_18_code 5 = .ok (.ifCond .ne 7, 3)) (by decide) (by decide) (fun _ => ?_) (fun h => False.elim (by revert h; decide))
  refine g_iconst (v := nI 1) (by decide +kernel : decode prog_10_method_18_code 12 = .ok (.iconst 1, 1)) (by decide) ?_
  refine g_goto (tgt := 17) (by decide +kernel : decode prog_10_method_18_code 13 = .ok (.goto 4, 3)) (by decide) ?_
  refine g_putZ (by decide +kernel : decode prog_10_method_18_code 17 = .ok (.putfield 90, 3)) fl_Md_90 rfl rfl (by decide) ?_
  refine g_sto (kS_u11 _ _ _ _ _ _ _ _ _) ?_
  refine g_aload_n (by decide +kernel : decode prog_10_method_18_code 20 = .ok (.aload_n 0, 1)) rfl ?_
  refine g_getI (by decide +kernel : decode prog_10_method_18_code 21 = .ok (.getfield 90, 3)) fl_Md_90.get rfl rfl ?_
  refine g_top (w := nI 1) (rfl) ?_
  refine g_if_neN (tgt := 31) (by decide +kernel : decode prog_10_method_18_code 24 = .ok (.ifCond .ne 7, 3)) (by decide) (by decide) (fun _ => ?_) (fun h => False.elim (by revert h; decide))
  exact g_vret hR (by decide +kernel : decode prog_10_method_18_code 31 = .ok (.return_, 1)) rfl ⟨rfl, rfl⟩
set_option maxRecDepth 20000 in
theorem m_needs0 (σ : Store) (f b : Row) {t : Nat} (hT : TP σ t) (q : Nat) : Ct ΛM mt_Md_needs 2 [.ref 0, .int (nI 0)] (mS (kS σ (nI (kd (Bt σ) t q)) (nI q) (nI (en (Bt σ) t q)) (nI (vl (Bt σ) t q)) (nI 0)) f b) (PU (mS (tS σ t (nI 1) q) f b)) := by
  refine Ct.of (by decide) (Nat.le_of_ble_eq_true rfl) (fun X hR => ?_)
  show G (ΛM, mt_Md_needs, 2) X (mS (kS σ (nI (kd (Bt σ) t q)) (nI q) (nI (en (Bt σ) t q)) (nI (vl (Bt σ) t q)) (nI 0)) f b) [some (.ref 0), some (.int (nI 0))] [] 0
  refine g_aload_n (by decide +kernel : decode prog_10_method_18_code 0 = .ok (.aload_n 0, 1)) rfl ?_
  refine g_aload_n (by decide +kernel : decode prog_10_method_18_code 1 = .ok (.aload_n 0, 1)) rfl ?_
  refine g_getI (by decide +kernel : decode prog_10_method_18_code 2 = .ok (.getfield 90, 3)) fl_Md_90.get rfl rfl ?_
  refine g_top (w := nI 0) (rfl) ?_
  refine g_if_neN (tgt := 12) (by decide +kernel : decode prog_10_method_18_code 5 = .ok (.ifCond .ne 7, 3)) (by decide) (by decide) (fun h => False.elim (by revert h; decide)) (fun _ => ?_)
  refine g_iload_n (by decide +kernel : decode prog_10_method_18_code 8 = .ok (.iload_n 1, 1)) rfl ?_
  refine g_if_neN (tgt := 16) (by decide +kernel : decode prog_10_method_18_code 9 = .ok (.ifCond .ne 7, 3)) (by decide) (by decide) (fun h => False.elim (by revert h; decide)) (fun _ => ?_)
  refine g_iconst (v := nI 1) (by decide +kernel : decode prog_10_method_18_code 12 = .ok (.iconst 1, 1)) (by decide) ?_
  refine g_goto (tgt := 17) (by decide +kernel : decode prog_10_method_18_code 13 = .ok (.goto 4, 3)) (by decide) ?_
  refine g_putZ (by decide +kernel : decode prog_10_method_18_code 17 = .ok (.putfield 90, 3)) fl_Md_90 rfl rfl (by decide) ?_
  refine g_sto (kS_u11 _ _ _ _ _ _ _ _ _) ?_
  refine g_aload_n (by decide +kernel : decode prog_10_method_18_code 20 = .ok (.aload_n 0, 1)) rfl ?_
  refine g_getI (by decide +kernel : decode prog_10_method_18_code 21 = .ok (.getfield 90, 3)) fl_Md_90.get rfl rfl ?_
  refine g_top (w := nI 1) (rfl) ?_
  refine g_if_neN (tgt := 31) (by decide +kernel : decode prog_10_method_18_code 24 = .ok (.ifCond .ne 7, 3)) (by decide) (by decide) (fun _ => ?_) (fun h => False.elim (by revert h; decide))
  exact g_vret hR (by decide +kernel : decode prog_10_method_18_code 31 = .ok (.return_, 1)) rfl ⟨rfl, rfl⟩
set_option maxRecDepth 20000 in
theorem m_needs1 (σ : Store) (f b : Row) {t : Nat} (hT : TP σ t) {q : Nat} (hq : q ≤ t) {q' : Nat} (e : nx (Bt σ) t q = q') : Ct ΛM mt_Md_needs 2 [.ref 0, .int (nI 1)] (mS (kS σ (nI (kd (Bt σ) t q)) (nI q) (nI (en (Bt σ) t q)) (nI (vl (Bt σ) t q)) (nI 0)) f b) (PU (mS (tS σ t (nI 0) q') f b)) := by
  refine Ct.of (by decide) (Nat.le_of_ble_eq_true rfl) (fun X hR => ?_)
  show G (ΛM, mt_Md_needs, 2) X (mS (kS σ (nI (kd (Bt σ) t q)) (nI q) (nI (en (Bt σ) t q)) (nI (vl (Bt σ) t q)) (nI 0)) f b) [some (.ref 0), some (.int (nI 1))] [] 0
  refine g_aload_n (by decide +kernel : decode prog_10_method_18_code 0 = .ok (.aload_n 0, 1)) rfl ?_
  refine g_aload_n (by decide +kernel : decode prog_10_method_18_code 1 = .ok (.aload_n 0, 1)) rfl ?_
  refine g_getI (by decide +kernel : decode prog_10_method_18_code 2 = .ok (.getfield 90, 3)) fl_Md_90.get rfl rfl ?_
  refine g_top (w := nI 0) (rfl) ?_
  refine g_if_neN (tgt := 12) (by decide +kernel : decode prog_10_method_18_code 5 = .ok (.ifCond .ne 7, 3)) (by decide) (by decide) (fun h => False.elim (by revert h; decide)) (fun _ => ?_)
  refine g_iload_n (by decide +kernel : decode prog_10_method_18_code 8 = .ok (.iload_n 1, 1)) rfl ?_
  refine g_if_neN (tgt := 16) (by decide +kernel : decode prog_10_method_18_code 9 = .ok (.ifCond .ne 7, 3)) (by decide) (by decide) (fun _ => ?_) (fun h => False.elim (by revert h; decide))
  refine g_iconst (v := nI 0) (by decide +kernel : decode prog_10_method_18_code 16 = .ok (.iconst 0, 1)) (by decide) ?_
  refine g_putZ (by decide +kernel : decode prog_10_method_18_code 17 = .ok (.putfield 90, 3)) fl_Md_90 rfl rfl (by decide) ?_
  refine g_sto (kS_u11 _ _ _ _ _ _ _ _ _) ?_
  refine g_aload_n (by decide +kernel : decode prog_10_method_18_code 20 = .ok (.aload_n 0, 1)) rfl ?_
  refine g_getI (by decide +kernel : decode prog_10_method_18_code 21 = .ok (.getfield 90, 3)) fl_Md_90.get rfl rfl ?_
  refine g_top (w := nI 0) (rfl) ?_
  refine g_if_neN (tgt := 31) (by decide +kernel : decode prog_10_method_18_code 24 = .ok (.ifCond .ne 7, 3)) (by decide) (by decide) (fun h => False.elim (by revert h; decide)) (fun _ => ?_)
  refine g_aload_n (by decide +kernel : decode prog_10_method_18_code 27 = .ok (.aload_n 0, 1)) rfl ?_
  refine g_callVV [] (by decide +kernel : decode prog_10_method_18_code 28 = .ok (.invokevirtual 94, 3)) lk_Md_94 (m_nextT σ f b hT hq e) rfl rfl rfl rfl (Nat.le_of_ble_eq_true rfl) (Nat.le_of_ble_eq_true rfl) (fun s28 h28 => ?_)
  obtain rfl := h28
  exact g_vret hR (by decide +kernel : decode prog_10_method_18_code 31 = .ok (.return_, 1)) rfl ⟨rfl, rfl⟩
theorem m_byI {σ : Store} {t : Nat} (hT : TP σ t) {k q e v w : Int32} {f b : Row} (p : Nat) (hp : p < t) : Ct ΛM mt_Md_byteAt 0 [.ref 0, .int (nI p)] (mS (kS σ k q e v w) f b) (PF (nI (Bt σ p)) (mS (kS σ k q e v w) f b)) := by
  refine (m_by hT p (by have := hT.2.1; omega)).post ?_
  rintro v σ' ⟨r, rfl, h1, h2⟩
  rcases h2 with ⟨_, h2⟩ | ⟨h2, _⟩
  · exact ⟨r, rfl, h2, h1⟩
  · exact absurd hp h2
set_option maxRecDepth 20000 in
theorem m_isName (σ : Store) (f b : Row) {t : Nat} (hT : TP σ t) (w : Int32) {q : Nat} (hq : q ≤ t) (l l' a c d z : Nat) (hl : l = l' + 1) (h3 : 3 ≤ l) (h8 : l < 256) (ha : a < 256) (hc : c < 256) (hd : d < 256) (hz : z < 256) : Ct ΛM mt_Md_isName 1 [.ref 0, .int (nI l), .int (nI a), .int (nI c), .int (nI d), .int (nI z)] (mS (kS σ (nI (kd (Bt σ) t q)) (nI q) (nI (en (Bt σ) t q)) (nI (vl (Bt σ) t q)) w) f b) (PB (mS (tS σ t w q) f b) (kd (Bt σ) t q = 1 ∧ en (Bt σ) t q = q + l ∧ Bt σ q = a ∧ Bt σ (q + 1) = c ∧ Bt σ (q + 2) = d ∧ Bt σ (q + l') = z)) := by
  refine Ct.of (by decide) (Nat.le_of_ble_eq_true rfl) (fun X hR => ?_)
  show G (ΛM, mt_Md_isName, 1) X (mS (kS σ (nI (kd (Bt σ) t q)) (nI q) (nI (en (Bt σ) t q)) (nI (vl (Bt σ) t q)) w) f b) [some (.ref 0), some (.int (nI l)), some (.int (nI a)), some (.int (nI c)), some (.int (nI d)), some (.int (nI z))] [] 0
  have h200 := hT.2.1
  have hen := en_b (B := Bt σ) hq
  have hvl := vl_b (B := Bt σ) (t := t) (q := q)
  have hkd := kd_le (Bt σ) t q
  have hkq : kd (Bt σ) t q = 1 → q < t := fun h => kd_lt (by rw [h]; decide)
  refine g_aload_n (by decide +kernel : decode prog_10_method_19_code 0 = .ok (.aload_n 0, 1)) rfl ?_
  refine g_getI (by decide +kernel : decode prog_10_method_19_code 1 = .ok (.getfield 84, 3)) fl_Md_84.get rfl rfl ?_
  refine g_top (w := nI (kd (Bt σ) t q)) (rfl) ?_
  refine g_iconst (v := nI 1) (by decide +kernel : decode prog_10_method_19_code 4 = .ok (.iconst 1, 1)) (by decide) ?_
  refine g_icmp_neN (tgt := 81) (by decide +kernel : decode prog_10_method_19_code 5 = .ok (.if_icmp .ne 76, 3)) (by decide) (by omega) (by decide) (fun h5 => ?_) (fun h5 => ?_)
  · refine g_iconst (v := nI 0) (by decide +kernel : decode prog_10_method_19_code 81 = .ok (.iconst 0, 1)) (by decide) ?_
    exact g_zret hR (by decide +kernel : decode prog_10_method_19_code 82 = .ok (.ireturn, 1)) rfl (by decide) ⟨_, rfl, ⟨rfl, Or.inr ⟨rfl, fun z => by omega⟩⟩⟩
  · refine g_aload_n (by decide +kernel : decode prog_10_method_19_code 8 = .ok (.aload_n 0, 1)) rfl ?_
    refine g_getI (by decide +kernel : decode prog_10_method_19_code 9 = .ok (.getfield 67, 3)) fl_Md_67.get rfl rfl ?_
    refine g_top (w := nI (en (Bt σ) t q)) (rfl) ?_
    refine g_aload_n (by decide +kernel : decode prog_10_method_19_code 12 = .ok (.aload_n 0, 1)) rfl ?_
    refine g_getI (by decide +kernel : decode prog_10_method_19_code 13 = .ok (.getfield 70, 3)) fl_Md_70.get rfl rfl ?_
    refine g_top (w := nI q) (rfl) ?_
    refine g_isubN (by decide +kernel : decode prog_10_method_19_code 16 = .ok (.isub, 1)) (by omega) ?_
    refine g_iload_n (by decide +kernel : decode prog_10_method_19_code 17 = .ok (.iload_n 1, 1)) rfl ?_
    refine g_icmp_neN (tgt := 81) (by decide +kernel : decode prog_10_method_19_code 18 = .ok (.if_icmp .ne 63, 3)) (by decide) (by omega) (by omega) (fun h18 => ?_) (fun h18 => ?_)
    · refine g_iconst (v := nI 0) (by decide +kernel : decode prog_10_method_19_code 81 = .ok (.iconst 0, 1)) (by decide) ?_
      exact g_zret hR (by decide +kernel : decode prog_10_method_19_code 82 = .ok (.ireturn, 1)) rfl (by decide) ⟨_, rfl, ⟨rfl, Or.inr ⟨rfl, fun z => by omega⟩⟩⟩
    · refine g_aload_n (by decide +kernel : decode prog_10_method_19_code 21 = .ok (.aload_n 0, 1)) rfl ?_
      refine g_aload_n (by decide +kernel : decode prog_10_method_19_code 22 = .ok (.aload_n 0, 1)) rfl ?_
      refine g_getI (by decide +kernel : decode prog_10_method_19_code 23 = .ok (.getfield 70, 3)) fl_Md_70.get rfl rfl ?_
      refine g_top (w := nI q) (rfl) ?_
      have c26 := Bt_b (i := q) hT (by omega)
      refine g_callVI [.int (nI q)] (by decide +kernel : decode prog_10_method_19_code 26 = .ok (.invokevirtual 73, 3)) lk_Md_73 (m_byI hT q (by omega)) rfl rfl rfl rfl (Nat.le_of_ble_eq_true rfl) (Nat.le_of_ble_eq_true rfl) (fun r26 s26 h26 => ?_)
      obtain ⟨rfl, rfl⟩ := h26
      refine g_iload_n (by decide +kernel : decode prog_10_method_19_code 29 = .ok (.iload_n 2, 1)) rfl ?_
      refine g_icmp_neN (tgt := 81) (by decide +kernel : decode prog_10_method_19_code 30 = .ok (.if_icmp .ne 51, 3)) (by decide) (by omega) (by omega) (fun h30 => ?_) (fun h30 => ?_)
      · refine g_iconst (v := nI 0) (by decide +kernel : decode prog_10_method_19_code 81 = .ok (.iconst 0, 1)) (by decide) ?_
        exact g_zret hR (by decide +kernel : decode prog_10_method_19_code 82 = .ok (.ireturn, 1)) rfl (by decide) ⟨_, rfl, ⟨rfl, Or.inr ⟨rfl, fun z => by omega⟩⟩⟩
      · refine g_aload_n (by decide +kernel : decode prog_10_method_19_code 33 = .ok (.aload_n 0, 1)) rfl ?_
        refine g_aload_n (by decide +kernel : decode prog_10_method_19_code 34 = .ok (.aload_n 0, 1)) rfl ?_
        refine g_getI (by decide +kernel : decode prog_10_method_19_code 35 = .ok (.getfield 70, 3)) fl_Md_70.get rfl rfl ?_
        refine g_top (w := nI q) (rfl) ?_
        refine g_iconst (v := nI 1) (by decide +kernel : decode prog_10_method_19_code 38 = .ok (.iconst 1, 1)) (by decide) ?_
        refine g_iaddN (by decide +kernel : decode prog_10_method_19_code 39 = .ok (.iadd, 1)) ?_
        have c40 := Bt_b (i := q + 1) hT (by omega)
        refine g_callVI [.int (nI (q + 1))] (by decide +kernel : decode prog_10_method_19_code 40 = .ok (.invokevirtual 73, 3)) lk_Md_73 (m_byI hT (q + 1) (by omega)) rfl rfl rfl rfl (Nat.le_of_ble_eq_true rfl) (Nat.le_of_ble_eq_true rfl) (fun r40 s40 h40 => ?_)
        obtain ⟨rfl, rfl⟩ := h40
        refine g_iload_n (by decide +kernel : decode prog_10_method_19_code 43 = .ok (.iload_n 3, 1)) rfl ?_
        refine g_icmp_neN (tgt := 81) (by decide +kernel : decode prog_10_method_19_code 44 = .ok (.if_icmp .ne 37, 3)) (by decide) (by omega) (by omega) (fun h44 => ?_) (fun h44 => ?_)
        · refine g_iconst (v := nI 0) (by decide +kernel : decode prog_10_method_19_code 81 = .ok (.iconst 0, 1)) (by decide) ?_
          exact g_zret hR (by decide +kernel : decode prog_10_method_19_code 82 = .ok (.ireturn, 1)) rfl (by decide) ⟨_, rfl, ⟨rfl, Or.inr ⟨rfl, fun z => by omega⟩⟩⟩
        · refine g_aload_n (by decide +kernel : decode prog_10_method_19_code 47 = .ok (.aload_n 0, 1)) rfl ?_
          refine g_aload_n (by decide +kernel : decode prog_10_method_19_code 48 = .ok (.aload_n 0, 1)) rfl ?_
          refine g_getI (by decide +kernel : decode prog_10_method_19_code 49 = .ok (.getfield 70, 3)) fl_Md_70.get rfl rfl ?_
          refine g_top (w := nI q) (rfl) ?_
          refine g_iconst (v := nI 2) (by decide +kernel : decode prog_10_method_19_code 52 = .ok (.iconst 2, 1)) (by decide) ?_
          refine g_iaddN (by decide +kernel : decode prog_10_method_19_code 53 = .ok (.iadd, 1)) ?_
          have c54 := Bt_b (i := q + 2) hT (by omega)
          refine g_callVI [.int (nI (q + 2))] (by decide +kernel : decode prog_10_method_19_code 54 = .ok (.invokevirtual 73, 3)) lk_Md_73 (m_byI hT (q + 2) (by omega)) rfl rfl rfl rfl (Nat.le_of_ble_eq_true rfl) (Nat.le_of_ble_eq_true rfl) (fun r54 s54 h54 => ?_)
          obtain ⟨rfl, rfl⟩ := h54
          refine g_iload (by decide +kernel : decode prog_10_method_19_code 57 = .ok (.iload 4, 2)) rfl ?_
          refine g_icmp_neN (tgt := 81) (by decide +kernel : decode prog_10_method_19_code 59 = .ok (.if_icmp .ne 22, 3)) (by decide) (by omega) (by omega) (fun h59 => ?_) (fun h59 => ?_)
          · refine g_iconst (v := nI 0) (by decide +kernel : decode prog_10_method_19_code 81 = .ok (.iconst 0, 1)) (by decide) ?_
            exact g_zret hR (by decide +kernel : decode prog_10_method_19_code 82 = .ok (.ireturn, 1)) rfl (by decide) ⟨_, rfl, ⟨rfl, Or.inr ⟨rfl, fun z => by omega⟩⟩⟩
          · refine g_aload_n (by decide +kernel : decode prog_10_method_19_code 62 = .ok (.aload_n 0, 1)) rfl ?_
            refine g_aload_n (by decide +kernel : decode prog_10_method_19_code 63 = .ok (.aload_n 0, 1)) rfl ?_
            refine g_getI (by decide +kernel : decode prog_10_method_19_code 64 = .ok (.getfield 67, 3)) fl_Md_67.get rfl rfl ?_
            refine g_top (w := nI (en (Bt σ) t q)) (rfl) ?_
            refine g_iconst (v := nI 1) (by decide +kernel : decode prog_10_method_19_code 67 = .ok (.iconst 1, 1)) (by decide) ?_
            refine g_isubN (by decide +kernel : decode prog_10_method_19_code 68 = .ok (.isub, 1)) (by omega) ?_
            have el : en (Bt σ) t q - 1 = q + l' := by omega
            have c69 := Bt_b (i := q + l') hT (by omega)
            refine g_callVI [.int (nI ((en (Bt σ) t q) - 1))] (by decide +kernel : decode prog_10_method_19_code 69 = .ok (.invokevirtual 73, 3)) lk_Md_73 (m_byI hT (en (Bt σ) t q - 1) (by omega)) rfl rfl rfl rfl (Nat.le_of_ble_eq_true rfl) (Nat.le_of_ble_eq_true rfl) (fun r69 s69 h69 => ?_)
            obtain ⟨rfl, rfl⟩ := h69
            refine g_top (w := nI (Bt σ (q + l'))) (by rw [el]) ?_
            refine g_iload (by decide +kernel : decode prog_10_method_19_code 72 = .ok (.iload 5, 2)) rfl ?_
            refine g_icmp_neN (tgt := 81) (by decide +kernel : decode prog_10_method_19_code 74 = .ok (.if_icmp .ne 7, 3)) (by decide) (by omega) (by omega) (fun h74 => ?_) (fun h74 => ?_)
            · refine g_iconst (v := nI 0) (by decide +kernel : decode prog_10_method_19_code 81 = .ok (.iconst 0, 1)) (by decide) ?_
              exact g_zret hR (by decide +kernel : decode prog_10_method_19_code 82 = .ok (.ireturn, 1)) rfl (by decide) ⟨_, rfl, ⟨rfl, Or.inr ⟨rfl, fun z => by omega⟩⟩⟩
            · refine g_iconst (v := nI 1) (by decide +kernel : decode prog_10_method_19_code 77 = .ok (.iconst 1, 1)) (by decide) ?_
              refine g_goto (tgt := 82) (by decide +kernel : decode prog_10_method_19_code 78 = .ok (.goto 4, 3)) (by decide) ?_
              exact g_zret hR (by decide +kernel : decode prog_10_method_19_code 82 = .ok (.ireturn, 1)) rfl (by decide) ⟨_, rfl, ⟨rfl, Or.inl ⟨rfl, ⟨by omega, by omega, by omega, by omega, by omega, by omega⟩⟩⟩⟩
set_option maxRecDepth 20000 in
theorem m_isFour (σ : Store) (f b : Row) {t : Nat} (hT : TP σ t) (w : Int32) {q : Nat} (hq : q ≤ t) (a c d z : Nat) (ha : a < 256) (hc : c < 256) (hd : d < 256) (hz : z < 256) : Ct ΛM mt_Md_isFour 2 [.ref 0, .int (nI a), .int (nI c), .int (nI d), .int (nI z)] (mS (kS σ (nI (kd (Bt σ) t q)) (nI q) (nI (en (Bt σ) t q)) (nI (vl (Bt σ) t q)) w) f b) (PB (mS (tS σ t w q) f b) (kd (Bt σ) t q = 1 ∧ en (Bt σ) t q = q + 4 ∧ Bt σ q = a ∧ Bt σ (q + 1) = c ∧ Bt σ (q + 2) = d ∧ Bt σ (q + 3) = z)) := by
  refine Ct.of (by decide) (Nat.le_of_ble_eq_true rfl) (fun X hR => ?_)
  show G (ΛM, mt_Md_isFour, 2) X (mS (kS σ (nI (kd (Bt σ) t q)) (nI q) (nI (en (Bt σ) t q)) (nI (vl (Bt σ) t q)) w) f b) [some (.ref 0), some (.int (nI a)), some (.int (nI c)), some (.int (nI d)), some (.int (nI z))] [] 0
  refine g_aload_n (by decide +kernel : decode prog_10_method_21_code 0 = .ok (.aload_n 0, 1)) rfl ?_
  refine g_iconst (v := nI 4) (by decide +kernel : decode prog_10_method_21_code 1 = .ok (.iconst 4, 1)) (by decide) ?_
  refine g_iload_n (by decide +kernel : decode prog_10_method_21_code 2 = .ok (.iload_n 1, 1)) rfl ?_
  refine g_iload_n (by decide +kernel : decode prog_10_method_21_code 3 = .ok (.iload_n 2, 1)) rfl ?_
  refine g_iload_n (by decide +kernel : decode prog_10_method_21_code 4 = .ok (.iload_n 3, 1)) rfl ?_
  refine g_iload (by decide +kernel : decode prog_10_method_21_code 5 = .ok (.iload 4, 2)) rfl ?_
  refine g_callVI [.int (nI 4), .int (nI a), .int (nI c), .int (nI d), .int (nI z)] (by decide +kernel : decode prog_10_method_21_code 7 = .ok (.invokevirtual 97, 3)) lk_Md_97 (m_isName σ f b hT w hq 4 3 a c d z rfl (by decide) (by decide) ha hc hd hz) rfl rfl rfl rfl (Nat.le_of_ble_eq_true rfl) (Nat.le_of_ble_eq_true rfl) (fun r7 s7 h7 => ?_)
  rcases h7 with ⟨rfl, ⟨rfl, q7⟩ | ⟨rfl, q7⟩⟩
  · exact g_zret hR (by decide +kernel : decode prog_10_method_21_code 10 = .ok (.ireturn, 1)) rfl (by decide) ⟨_, rfl, ⟨rfl, Or.inl ⟨rfl, q7⟩⟩⟩
  · exact g_zret hR (by decide +kernel : decode prog_10_method_21_code 10 = .ok (.ireturn, 1)) rfl (by decide) ⟨_, rfl, ⟨rfl, Or.inr ⟨rfl, q7⟩⟩⟩
set_option maxRecDepth 20000 in
theorem m_isFive (σ : Store) (f b : Row) {t : Nat} (hT : TP σ t) (w : Int32) {q : Nat} (hq : q ≤ t) (a c d u z : Nat) (ha : a < 256) (hc : c < 256) (hd : d < 256) (hu : u < 256) (hz : z < 256) : Ct ΛM mt_Md_isFive 2 [.ref 0, .int (nI a), .int (nI c), .int (nI d), .int (nI u), .int (nI z)] (mS (kS σ (nI (kd (Bt σ) t q)) (nI q) (nI (en (Bt σ) t q)) (nI (vl (Bt σ) t q)) w) f b) (PB (mS (tS σ t w q) f b) (kd (Bt σ) t q = 1 ∧ en (Bt σ) t q = q + 5 ∧ Bt σ q = a ∧ Bt σ (q + 1) = c ∧ Bt σ (q + 2) = d ∧ Bt σ (q + 3) = u ∧ Bt σ (q + 4) = z)) := by
  refine Ct.of (by decide) (Nat.le_of_ble_eq_true rfl) (fun X hR => ?_)
  show G (ΛM, mt_Md_isFive, 2) X (mS (kS σ (nI (kd (Bt σ) t q)) (nI q) (nI (en (Bt σ) t q)) (nI (vl (Bt σ) t q)) w) f b) [some (.ref 0), some (.int (nI a)), some (.int (nI c)), some (.int (nI d)), some (.int (nI u)), some (.int (nI z))] [] 0
  have h200 := hT.2.1
  have hen := en_b (B := Bt σ) hq
  have hvl := vl_b (B := Bt σ) (t := t) (q := q)
  have hkd := kd_le (Bt σ) t q
  refine g_aload_n (by decide +kernel : decode prog_10_method_22_code 0 = .ok (.aload_n 0, 1)) rfl ?_
  refine g_iconst (v := nI 5) (by decide +kernel : decode prog_10_method_22_code 1 = .ok (.iconst 5, 1)) (by decide) ?_
  refine g_iload_n (by decide +kernel : decode prog_10_method_22_code 2 = .ok (.iload_n 1, 1)) rfl ?_
  refine g_iload_n (by decide +kernel : decode prog_10_method_22_code 3 = .ok (.iload_n 2, 1)) rfl ?_
  refine g_iload_n (by decide +kernel : decode prog_10_method_22_code 4 = .ok (.iload_n 3, 1)) rfl ?_
  refine g_iload (by decide +kernel : decode prog_10_method_22_code 5 = .ok (.iload 5, 2)) rfl ?_
  refine g_callVI [.int (nI 5), .int (nI a), .int (nI c), .int (nI d), .int (nI z)] (by decide +kernel : decode prog_10_method_22_code 7 = .ok (.invokevirtual 97, 3)) lk_Md_97 (m_isName σ f b hT w hq 5 4 a c d z rfl (by decide) (by decide) ha hc hd hz) rfl rfl rfl rfl (Nat.le_of_ble_eq_true rfl) (Nat.le_of_ble_eq_true rfl) (fun r7 s7 h7 => ?_)
  rcases h7 with ⟨rfl, ⟨rfl, q7⟩ | ⟨rfl, q7⟩⟩
  · refine g_if_eqN (tgt := 32) (by decide +kernel : decode prog_10_method_22_code 10 = .ok (.ifCond .eq 22, 3)) (by decide) (by decide) (fun h => False.elim (by revert h; decide)) (fun _ => ?_)
    refine g_aload_n (by decide +kernel : decode prog_10_method_22_code 13 = .ok (.aload_n 0, 1)) rfl ?_
    refine g_aload_n (by decide +kernel : decode prog_10_method_22_code 14 = .ok (.aload_n 0, 1)) rfl ?_
    refine g_getI (by decide +kernel : decode prog_10_method_22_code 15 = .ok (.getfield 70, 3)) fl_Md_70.get rfl rfl ?_
    refine g_top (w := nI q) (rfl) ?_
    refine g_iconst (v := nI 3) (by decide +kernel : decode prog_10_method_22_code 18 = .ok (.iconst 3, 1)) (by decide) ?_
    refine g_iaddN (by decide +kernel : decode prog_10_method_22_code 19 = .ok (.iadd, 1)) ?_
    have c20 := Bt_b (i := q + 3) hT (by omega)
    refine g_callVI [.int (nI (q + 3))] (by decide +kernel : decode prog_10_method_22_code 20 = .ok (.invokevirtual 73, 3)) lk_Md_73 (m_byI hT (q + 3) (by omega)) rfl rfl rfl rfl (Nat.le_of_ble_eq_true rfl) (Nat.le_of_ble_eq_true rfl) (fun r20 s20 h20 => ?_)
    obtain ⟨rfl, rfl⟩ := h20
    refine g_iload (by decide +kernel : decode prog_10_method_22_code 23 = .ok (.iload 4, 2)) rfl ?_
    refine g_icmp_neN (tgt := 32) (by decide +kernel : decode prog_10_method_22_code 25 = .ok (.if_icmp .ne 7, 3)) (by decide) (by omega) (by omega) (fun h25 => ?_) (fun h25 => ?_)
    · refine g_iconst (v := nI 0) (by decide +kernel : decode prog_10_method_22_code 32 = .ok (.iconst 0, 1)) (by decide) ?_
      exact g_zret hR (by decide +kernel : decode prog_10_method_22_code 33 = .ok (.ireturn, 1)) rfl (by decide) ⟨_, rfl, ⟨rfl, Or.inr ⟨rfl, fun z => by omega⟩⟩⟩
    · refine g_iconst (v := nI 1) (by decide +kernel : decode prog_10_method_22_code 28 = .ok (.iconst 1, 1)) (by decide) ?_
      refine g_goto (tgt := 33) (by decide +kernel : decode prog_10_method_22_code 29 = .ok (.goto 4, 3)) (by decide) ?_
      exact g_zret hR (by decide +kernel : decode prog_10_method_22_code 33 = .ok (.ireturn, 1)) rfl (by decide) ⟨_, rfl, ⟨rfl, Or.inl ⟨rfl, ⟨by omega, by omega, by omega, by omega, by omega, by omega, by omega⟩⟩⟩⟩
  · refine g_if_eqN (tgt := 32) (by decide +kernel : decode prog_10_method_22_code 10 = .ok (.ifCond .eq 22, 3)) (by decide) (by decide) (fun _ => ?_) (fun h => False.elim (by revert h; decide))
    refine g_iconst (v := nI 0) (by decide +kernel : decode prog_10_method_22_code 32 = .ok (.iconst 0, 1)) (by decide) ?_
    exact g_zret hR (by decide +kernel : decode prog_10_method_22_code 33 = .ok (.ireturn, 1)) rfl (by decide) ⟨_, rfl, ⟨rfl, Or.inr ⟨rfl, fun z => by omega⟩⟩⟩
set_option maxRecDepth 20000 in
theorem m_isTwo (σ : Store) (f b : Row) {t : Nat} (hT : TP σ t) (w : Int32) {q : Nat} (hq : q ≤ t) (a c : Nat) (ha : a < 256) (hc : c < 256) : Ct ΛM mt_Md_isTwo 1 [.ref 0, .int (nI a), .int (nI c)] (mS (kS σ (nI (kd (Bt σ) t q)) (nI q) (nI (en (Bt σ) t q)) (nI (vl (Bt σ) t q)) w) f b) (PB (mS (tS σ t w q) f b) (kd (Bt σ) t q = 1 ∧ en (Bt σ) t q = q + 2 ∧ Bt σ q = a ∧ Bt σ (q + 1) = c)) := by
  refine Ct.of (by decide) (Nat.le_of_ble_eq_true rfl) (fun X hR => ?_)
  show G (ΛM, mt_Md_isTwo, 1) X (mS (kS σ (nI (kd (Bt σ) t q)) (nI q) (nI (en (Bt σ) t q)) (nI (vl (Bt σ) t q)) w) f b) [some (.ref 0), some (.int (nI a)), some (.int (nI c))] [] 0
  have h200 := hT.2.1
  have hen := en_b (B := Bt σ) hq
  have hvl := vl_b (B := Bt σ) (t := t) (q := q)
  have hkd := kd_le (Bt σ) t q
  have hkq : kd (Bt σ) t q = 1 → q < t := fun h => kd_lt (by rw [h]; decide)
  refine g_aload_n (by decide +kernel : decode prog_10_method_26_code 0 = .ok (.aload_n 0, 1)) rfl ?_
  refine g_getI (by decide +kernel : decode prog_10_method_26_code 1 = .ok (.getfield 84, 3)) fl_Md_84.get rfl rfl ?_
  refine g_top (w := nI (kd (Bt σ) t q)) (rfl) ?_
  refine g_iconst (v := nI 1) (by decide +kernel : decode prog_10_method_26_code 4 = .ok (.iconst 1, 1)) (by decide) ?_
  refine g_icmp_neN (tgt := 51) (by decide +kernel : decode prog_10_method_26_code 5 = .ok (.if_icmp .ne 46, 3)) (by decide) (by omega) (by decide) (fun h5 => ?_) (fun h5 => ?_)
  · refine g_iconst (v := nI 0) (by decide +kernel : decode prog_10_method_26_code 51 = .ok (.iconst 0, 1)) (by decide) ?_
    exact g_zret hR (by decide +kernel : decode prog_10_method_26_code 52 = .ok (.ireturn, 1)) rfl (by decide) ⟨_, rfl, ⟨rfl, Or.inr ⟨rfl, fun z => by omega⟩⟩⟩
  · refine g_aload_n (by decide +kernel : decode prog_10_method_26_code 8 = .ok (.aload_n 0, 1)) rfl ?_
    refine g_getI (by decide +kernel : decode prog_10_method_26_code 9 = .ok (.getfield 67, 3)) fl_Md_67.get rfl rfl ?_
    refine g_top (w := nI (en (Bt σ) t q)) (rfl) ?_
    refine g_aload_n (by decide +kernel : decode prog_10_method_26_code 12 = .ok (.aload_n 0, 1)) rfl ?_
    refine g_getI (by decide +kernel : decode prog_10_method_26_code 13 = .ok (.getfield 70, 3)) fl_Md_70.get rfl rfl ?_
    refine g_top (w := nI q) (rfl) ?_
    refine g_isubN (by decide +kernel : decode prog_10_method_26_code 16 = .ok (.isub, 1)) (by omega) ?_
    refine g_iconst (v := nI 2) (by decide +kernel : decode prog_10_method_26_code 17 = .ok (.iconst 2, 1)) (by decide) ?_
    refine g_icmp_neN (tgt := 51) (by decide +kernel : decode prog_10_method_26_code 18 = .ok (.if_icmp .ne 33, 3)) (by decide) (by omega) (by decide) (fun h18 => ?_) (fun h18 => ?_)
    · refine g_iconst (v := nI 0) (by decide +kernel : decode prog_10_method_26_code 51 = .ok (.iconst 0, 1)) (by decide) ?_
      exact g_zret hR (by decide +kernel : decode prog_10_method_26_code 52 = .ok (.ireturn, 1)) rfl (by decide) ⟨_, rfl, ⟨rfl, Or.inr ⟨rfl, fun z => by omega⟩⟩⟩
    · refine g_aload_n (by decide +kernel : decode prog_10_method_26_code 21 = .ok (.aload_n 0, 1)) rfl ?_
      refine g_aload_n (by decide +kernel : decode prog_10_method_26_code 22 = .ok (.aload_n 0, 1)) rfl ?_
      refine g_getI (by decide +kernel : decode prog_10_method_26_code 23 = .ok (.getfield 70, 3)) fl_Md_70.get rfl rfl ?_
      refine g_top (w := nI q) (rfl) ?_
      have c26 := Bt_b (i := q) hT (by omega)
      refine g_callVI [.int (nI q)] (by decide +kernel : decode prog_10_method_26_code 26 = .ok (.invokevirtual 73, 3)) lk_Md_73 (m_byI hT q (by omega)) rfl rfl rfl rfl (Nat.le_of_ble_eq_true rfl) (Nat.le_of_ble_eq_true rfl) (fun r26 s26 h26 => ?_)
      obtain ⟨rfl, rfl⟩ := h26
      refine g_iload_n (by decide +kernel : decode prog_10_method_26_code 29 = .ok (.iload_n 1, 1)) rfl ?_
      refine g_icmp_neN (tgt := 51) (by decide +kernel : decode prog_10_method_26_code 30 = .ok (.if_icmp .ne 21, 3)) (by decide) (by omega) (by omega) (fun h30 => ?_) (fun h30 => ?_)
      · refine g_iconst (v := nI 0) (by decide +kernel : decode prog_10_method_26_code 51 = .ok (.iconst 0, 1)) (by decide) ?_
        exact g_zret hR (by decide +kernel : decode prog_10_method_26_code 52 = .ok (.ireturn, 1)) rfl (by decide) ⟨_, rfl, ⟨rfl, Or.inr ⟨rfl, fun z => by omega⟩⟩⟩
      · refine g_aload_n (by decide +kernel : decode prog_10_method_26_code 33 = .ok (.aload_n 0, 1)) rfl ?_
        refine g_aload_n (by decide +kernel : decode prog_10_method_26_code 34 = .ok (.aload_n 0, 1)) rfl ?_
        refine g_getI (by decide +kernel : decode prog_10_method_26_code 35 = .ok (.getfield 70, 3)) fl_Md_70.get rfl rfl ?_
        refine g_top (w := nI q) (rfl) ?_
        refine g_iconst (v := nI 1) (by decide +kernel : decode prog_10_method_26_code 38 = .ok (.iconst 1, 1)) (by decide) ?_
        refine g_iaddN (by decide +kernel : decode prog_10_method_26_code 39 = .ok (.iadd, 1)) ?_
        have c40 := Bt_b (i := q + 1) hT (by omega)
        refine g_callVI [.int (nI (q + 1))] (by decide +kernel : decode prog_10_method_26_code 40 = .ok (.invokevirtual 73, 3)) lk_Md_73 (m_byI hT (q + 1) (by omega)) rfl rfl rfl rfl (Nat.le_of_ble_eq_true rfl) (Nat.le_of_ble_eq_true rfl) (fun r40 s40 h40 => ?_)
        obtain ⟨rfl, rfl⟩ := h40
        refine g_iload_n (by decide +kernel : decode prog_10_method_26_code 43 = .ok (.iload_n 2, 1)) rfl ?_
        refine g_icmp_neN (tgt := 51) (by decide +kernel : decode prog_10_method_26_code 44 = .ok (.if_icmp .ne 7, 3)) (by decide) (by omega) (by omega) (fun h44 => ?_) (fun h44 => ?_)
        · refine g_iconst (v := nI 0) (by decide +kernel : decode prog_10_method_26_code 51 = .ok (.iconst 0, 1)) (by decide) ?_
          exact g_zret hR (by decide +kernel : decode prog_10_method_26_code 52 = .ok (.ireturn, 1)) rfl (by decide) ⟨_, rfl, ⟨rfl, Or.inr ⟨rfl, fun z => by omega⟩⟩⟩
        · refine g_iconst (v := nI 1) (by decide +kernel : decode prog_10_method_26_code 47 = .ok (.iconst 1, 1)) (by decide) ?_
          refine g_goto (tgt := 52) (by decide +kernel : decode prog_10_method_26_code 48 = .ok (.goto 4, 3)) (by decide) ?_
          exact g_zret hR (by decide +kernel : decode prog_10_method_26_code 52 = .ok (.ireturn, 1)) rfl (by decide) ⟨_, rfl, ⟨rfl, Or.inl ⟨rfl, ⟨by omega, by omega, by omega, by omega⟩⟩⟩⟩
set_option maxRecDepth 20000 in
theorem m_isSame (σ : Store) (f b : Row) {t : Nat} (hT : TP σ t) (w : Int32) {q : Nat} (i i1 i2 a c d : Nat) (g1 : i1 = i + 1) (g2 : i2 = i + 2) (h : q + i + 2 < t) (ha : a < 256) (hc : c < 256) (hd : d < 256) : Ct ΛM mt_Md_isSame 1 [.ref 0, .int (nI i), .int (nI a), .int (nI c), .int (nI d)] (mS (kS σ (nI (kd (Bt σ) t q)) (nI q) (nI (en (Bt σ) t q)) (nI (vl (Bt σ) t q)) w) f b) (PB (mS (tS σ t w q) f b) (Bt σ (q + i) = a ∧ Bt σ (q + i1) = c ∧ Bt σ (q + i2) = d)) := by
  refine Ct.of (by decide) (Nat.le_of_ble_eq_true rfl) (fun X hR => ?_)
  show G (ΛM, mt_Md_isSame, 1) X (mS (kS σ (nI (kd (Bt σ) t q)) (nI q) (nI (en (Bt σ) t q)) (nI (vl (Bt σ) t q)) w) f b) [some (.ref 0), some (.int (nI i)), some (.int (nI a)), some (.int (nI c)), some (.int (nI d))] [] 0
  have h200 := hT.2.1
  refine g_aload_n (by decide +kernel : decode prog_10_method_20_code 0 = .ok (.aload_n 0, 1)) rfl ?_
  refine g_aload_n (by decide +kernel : decode prog_10_method_20_code 1 = .ok (.aload_n 0, 1)) rfl ?_
  refine g_getI (by decide +kernel : decode prog_10_method_20_code 2 = .ok (.getfield 70, 3)) fl_Md_70.get rfl rfl ?_
  refine g_top (w := nI q) (rfl) ?_
  refine g_iload_n (by decide +kernel : decode prog_10_method_20_code 5 = .ok (.iload_n 1, 1)) rfl ?_
  refine g_iaddN (by decide +kernel : decode prog_10_method_20_code 6 = .ok (.iadd, 1)) ?_
  have c7 := Bt_b (i := q + i) hT (by omega)
  refine g_callVI [.int (nI (q + i))] (by decide +kernel : decode prog_10_method_20_code 7 = .ok (.invokevirtual 73, 3)) lk_Md_73 (m_byI hT (q + i) (by omega)) rfl rfl rfl rfl (Nat.le_of_ble_eq_true rfl) (Nat.le_of_ble_eq_true rfl) (fun r7 s7 h7 => ?_)
  obtain ⟨rfl, rfl⟩ := h7
  refine g_iload_n (by decide +kernel : decode prog_10_method_20_code 10 = .ok (.iload_n 2, 1)) rfl ?_
  refine g_icmp_neN (tgt := 51) (by decide +kernel : decode prog_10_method_20_code 11 = .ok (.if_icmp .ne 40, 3)) (by decide) (by omega) (by omega) (fun h11 => ?_) (fun h11 => ?_)
  · refine g_iconst (v := nI 0) (by decide +kernel : decode prog_10_method_20_code 51 = .ok (.iconst 0, 1)) (by decide) ?_
    exact g_zret hR (by decide +kernel : decode prog_10_method_20_code 52 = .ok (.ireturn, 1)) rfl (by decide) ⟨_, rfl, ⟨rfl, Or.inr ⟨rfl, fun z => by omega⟩⟩⟩
  · refine g_aload_n (by decide +kernel : decode prog_10_method_20_code 14 = .ok (.aload_n 0, 1)) rfl ?_
    refine g_aload_n (by decide +kernel : decode prog_10_method_20_code 15 = .ok (.aload_n 0, 1)) rfl ?_
    refine g_getI (by decide +kernel : decode prog_10_method_20_code 16 = .ok (.getfield 70, 3)) fl_Md_70.get rfl rfl ?_
    refine g_top (w := nI q) (rfl) ?_
    refine g_iload_n (by decide +kernel : decode prog_10_method_20_code 19 = .ok (.iload_n 1, 1)) rfl ?_
    refine g_iaddN (by decide +kernel : decode prog_10_method_20_code 20 = .ok (.iadd, 1)) ?_
    refine g_iconst (v := nI 1) (by decide +kernel : decode prog_10_method_20_code 21 = .ok (.iconst 1, 1)) (by decide) ?_
    refine g_iaddN (by decide +kernel : decode prog_10_method_20_code 22 = .ok (.iadd, 1)) ?_
    have c23 := Bt_b (i := q + i1) hT (by omega)
    refine g_callVI [.int (nI (q + i + 1))] (by decide +kernel : decode prog_10_method_20_code 23 = .ok (.invokevirtual 73, 3)) lk_Md_73 (m_byI hT (q + i + 1) (by omega)) rfl rfl rfl rfl (Nat.le_of_ble_eq_true rfl) (Nat.le_of_ble_eq_true rfl) (fun r23 s23 h23 => ?_)
    obtain ⟨rfl, rfl⟩ := h23
    refine g_top (w := nI (Bt σ (q + i1))) (by rw [show q + i1 = q + i + 1 by omega]) ?_
    refine g_iload_n (by decide +kernel : decode prog_10_method_20_code 26 = .ok (.iload_n 3, 1)) rfl ?_
    refine g_icmp_neN (tgt := 51) (by decide +kernel : decode prog_10_method_20_code 27 = .ok (.if_icmp .ne 24, 3)) (by decide) (by omega) (by omega) (fun h27 => ?_) (fun h27 => ?_)
    · refine g_iconst (v := nI 0) (by decide +kernel : decode prog_10_method_20_code 51 = .ok (.iconst 0, 1)) (by decide) ?_
      exact g_zret hR (by decide +kernel : decode prog_10_method_20_code 52 = .ok (.ireturn, 1)) rfl (by decide) ⟨_, rfl, ⟨rfl, Or.inr ⟨rfl, fun z => by omega⟩⟩⟩
    · refine g_aload_n (by decide +kernel : decode prog_10_method_20_code 30 = .ok (.aload_n 0, 1)) rfl ?_
      refine g_aload_n (by decide +kernel : decode prog_10_method_20_code 31 = .ok (.aload_n 0, 1)) rfl ?_
      refine g_getI (by decide +kernel : decode prog_10_method_20_code 32 = .ok (.getfield 70, 3)) fl_Md_70.get rfl rfl ?_
      refine g_top (w := nI q) (rfl) ?_
      refine g_iload_n (by decide +kernel : decode prog_10_method_20_code 35 = .ok (.iload_n 1, 1)) rfl ?_
      refine g_iaddN (by decide +kernel : decode prog_10_method_20_code 36 = .ok (.iadd, 1)) ?_
      refine g_iconst (v := nI 2) (by decide +kernel : decode prog_10_method_20_code 37 = .ok (.iconst 2, 1)) (by decide) ?_
      refine g_iaddN (by decide +kernel : decode prog_10_method_20_code 38 = .ok (.iadd, 1)) ?_
      have c39 := Bt_b (i := q + i2) hT (by omega)
      refine g_callVI [.int (nI (q + i + 2))] (by decide +kernel : decode prog_10_method_20_code 39 = .ok (.invokevirtual 73, 3)) lk_Md_73 (m_byI hT (q + i + 2) (by omega)) rfl rfl rfl rfl (Nat.le_of_ble_eq_true rfl) (Nat.le_of_ble_eq_true rfl) (fun r39 s39 h39 => ?_)
      obtain ⟨rfl, rfl⟩ := h39
      refine g_top (w := nI (Bt σ (q + i2))) (by rw [show q + i2 = q + i + 2 by omega]) ?_
      refine g_iload (by decide +kernel : decode prog_10_method_20_code 42 = .ok (.iload 4, 2)) rfl ?_
      refine g_icmp_neN (tgt := 51) (by decide +kernel : decode prog_10_method_20_code 44 = .ok (.if_icmp .ne 7, 3)) (by decide) (by omega) (by omega) (fun h44 => ?_) (fun h44 => ?_)
      · refine g_iconst (v := nI 0) (by decide +kernel : decode prog_10_method_20_code 51 = .ok (.iconst 0, 1)) (by decide) ?_
        exact g_zret hR (by decide +kernel : decode prog_10_method_20_code 52 = .ok (.ireturn, 1)) rfl (by decide) ⟨_, rfl, ⟨rfl, Or.inr ⟨rfl, fun z => by omega⟩⟩⟩
      · refine g_iconst (v := nI 1) (by decide +kernel : decode prog_10_method_20_code 47 = .ok (.iconst 1, 1)) (by decide) ?_
        refine g_goto (tgt := 52) (by decide +kernel : decode prog_10_method_20_code 48 = .ok (.goto 4, 3)) (by decide) ?_
        exact g_zret hR (by decide +kernel : decode prog_10_method_20_code 52 = .ok (.ireturn, 1)) rfl (by decide) ⟨_, rfl, ⟨rfl, Or.inl ⟨rfl, ⟨by omega, by omega, by omega⟩⟩⟩⟩
def oM (d : Nat) : Option Nat → Int32
  | none => -1
  | some k => nI (d + k)
set_option maxRecDepth 20000 in
theorem m_kindHere (σ : Store) (f b : Row) {t : Nat} (hT : TP σ t) {q : Nat} (hq : q ≤ t) : Ct ΛM mt_Md_kindHere 3 [.ref 0] (mS (kS σ (nI (kd (Bt σ) t q)) (nI q) (nI (en (Bt σ) t q)) (nI (vl (Bt σ) t q)) (nI 0)) f b) (PF (oM 0 (kdW (Bt σ) t q)) (mS (tS σ t (nI 0) q) f b)) := by
  refine Ct.of (by decide) (Nat.le_of_ble_eq_true rfl) (fun X hR => ?_)
  show G (ΛM, mt_Md_kindHere, 3) X (mS (kS σ (nI (kd (Bt σ) t q)) (nI q) (nI (en (Bt σ) t q)) (nI (vl (Bt σ) t q)) (nI 0)) f b) [some (.ref 0)] [] 0
  have h200 := hT.2.1
  have hen := en_b (B := Bt σ) hq
  have hvl := vl_b (B := Bt σ) (t := t) (q := q)
  have hkd := kd_le (Bt σ) t q
  have J19 : ¬ nm (Bt σ) t q W_child → G (ΛM, mt_Md_kindHere, 3) X (mS (kS σ (nI (kd (Bt σ) t q)) (nI q) (nI (en (Bt σ) t q)) (nI (vl (Bt σ) t q)) (nI 0)) f b) [some (.ref 0)] [] 19 := by
    intro n_child
    have J52 : ¬ nm (Bt σ) t q W_widower → G (ΛM, mt_Md_kindHere, 3) X (mS (kS σ (nI (kd (Bt σ) t q)) (nI q) (nI (en (Bt σ) t q)) (nI (vl (Bt σ) t q)) (nI 0)) f b) [some (.ref 0)] [] 52 := by
      intro n_widower
      have J85 : ¬ nm (Bt σ) t q W_keeper → G (ΛM, mt_Md_kindHere, 3) X (mS (kS σ (nI (kd (Bt σ) t q)) (nI q) (nI (en (Bt σ) t q)) (nI (vl (Bt σ) t q)) (nI 0)) f b) [some (.ref 0)] [] 85 := by
        intro n_keeper
        have J134 : ¬ nm (Bt σ) t q W_grandson → G (ΛM, mt_Md_kindHere, 3) X (mS (kS σ (nI (kd (Bt σ) t q)) (nI q) (nI (en (Bt σ) t q)) (nI (vl (Bt σ) t q)) (nI 0)) f b) [some (.ref 0)] [] 134 := by
          intro n_grandson
          have J167 : ¬ nm (Bt σ) t q W_scholar → G (ΛM, mt_Md_kindHere, 3) X (mS (kS σ (nI (kd (Bt σ) t q)) (nI q) (nI (en (Bt σ) t q)) (nI (vl (Bt σ) t q)) (nI 0)) f b) [some (.ref 0)] [] 167 := by
            intro n_scholar
            refine g_aload_n (by decide +kernel : decode prog_10_method_23_code 167 = .ok (.aload_n 0, 1)) rfl ?_
            refine g_bipush (v := nI 108) (by decide +kernel : decode prog_10_method_23_code 168 = .ok (.bipush 108, 2)) (by decide) ?_
            refine g_bipush (v := nI 97) (by decide +kernel : decode prog_10_method_23_code 170 = .ok (.bipush 97, 2)) (by decide) ?_
            refine g_bipush (v := nI 100) (by decide +kernel : decode prog_10_method_23_code 172 = .ok (.bipush 100, 2)) (by decide) ?_
            refine g_bipush (v := nI 121) (by decide +kernel : decode prog_10_method_23_code 174 = .ok (.bipush 121, 2)) (by decide) ?_
            refine g_callVI [.int (nI 108), .int (nI 97), .int (nI 100), .int (nI 121)] (by decide +kernel : decode prog_10_method_23_code 176 = .ok (.invokevirtual 108, 3)) lk_Md_108 (m_isFour σ f b hT (nI 0) (by omega) 108 97 100 121 (by decide) (by decide) (by decide) (by decide) ) rfl rfl rfl rfl (Nat.le_of_ble_eq_true rfl) (Nat.le_of_ble_eq_true rfl) (fun r176 s176 h176 => ?_)
            rcases h176 with ⟨rfl, ⟨rfl, q176⟩ | ⟨rfl, q176⟩⟩
            · refine g_if_eqN (tgt := 186) (by decide +kernel : decode prog_10_method_23_code 179 = .ok (.ifCond .eq 7, 3)) (by decide) (by decide) (fun h => False.elim (by revert h; decide)) (fun _ => ?_)
              refine g_iconst (v := nI 5) (by decide +kernel : decode prog_10_method_23_code 182 = .ok (.iconst 5, 1)) (by decide) ?_
              refine g_goto (tgt := 187) (by decide +kernel : decode prog_10_method_23_code 183 = .ok (.goto 4, 3)) (by decide) ?_
              exact g_iret hR (by decide +kernel : decode prog_10_method_23_code 187 = .ok (.ireturn, 1)) rfl ⟨_, rfl, ⟨by unfold kdW; rw [if_neg n_child, if_neg n_widower, if_neg n_keeper, if_neg n_grandson, if_neg n_scholar, if_pos (nm_lady.mpr ⟨by omega, by omega, by omega, by omega, by omega, by omega⟩)]; rfl, rfl⟩⟩
            · refine g_if_eqN (tgt := 186) (by decide +kernel : decode prog_10_method_23_code 179 = .ok (.ifCond .eq 7, 3)) (by decide) (by decide) (fun _ => ?_) (fun h => False.elim (by revert h; decide))
              refine g_iconst (v := (-1)) (by decide +kernel : decode prog_10_method_23_code 186 = .ok (.iconst (-1), 1)) (by decide) ?_
              exact g_iret hR (by decide +kernel : decode prog_10_method_23_code 187 = .ok (.ireturn, 1)) rfl ⟨_, rfl, ⟨by unfold kdW; rw [if_neg n_child, if_neg n_widower, if_neg n_keeper, if_neg n_grandson, if_neg n_scholar, if_neg (fun z => by have z9 := nm_lady.mp z; omega)]; rfl, rfl⟩⟩
          refine g_aload_n (by decide +kernel : decode prog_10_method_23_code 134 = .ok (.aload_n 0, 1)) rfl ?_
          refine g_bipush (v := nI 7) (by decide +kernel : decode prog_10_method_23_code 135 = .ok (.bipush 7, 2)) (by decide) ?_
          refine g_bipush (v := nI 115) (by decide +kernel : decode prog_10_method_23_code 137 = .ok (.bipush 115, 2)) (by decide) ?_
          refine g_bipush (v := nI 99) (by decide +kernel : decode prog_10_method_23_code 139 = .ok (.bipush 99, 2)) (by decide) ?_
          refine g_bipush (v := nI 104) (by decide +kernel : decode prog_10_method_23_code 141 = .ok (.bipush 104, 2)) (by decide) ?_
          refine g_bipush (v := nI 114) (by decide +kernel : decode prog_10_method_23_code 143 = .ok (.bipush 114, 2)) (by decide) ?_
          refine g_callVI [.int (nI 7), .int (nI 115), .int (nI 99), .int (nI 104), .int (nI 114)] (by decide +kernel : decode prog_10_method_23_code 145 = .ok (.invokevirtual 97, 3)) lk_Md_97 (m_isName σ f b hT (nI 0) (by omega) 7 6 115 99 104 114 rfl (by decide) (by decide) (by decide) (by decide) (by decide) (by decide) ) rfl rfl rfl rfl (Nat.le_of_ble_eq_true rfl) (Nat.le_of_ble_eq_true rfl) (fun r145 s145 h145 => ?_)
          rcases h145 with ⟨rfl, ⟨rfl, q145⟩ | ⟨rfl, q145⟩⟩
          · refine g_if_eqN (tgt := 167) (by decide +kernel : decode prog_10_method_23_code 148 = .ok (.ifCond .eq 19, 3)) (by decide) (by decide) (fun h => False.elim (by revert h; decide)) (fun _ => ?_)
            refine g_aload_n (by decide +kernel : decode prog_10_method_23_code 151 = .ok (.aload_n 0, 1)) rfl ?_
            refine g_iconst (v := nI 3) (by decide +kernel : decode prog_10_method_23_code 152 = .ok (.iconst 3, 1)) (by decide) ?_
            refine g_bipush (v := nI 111) (by decide +kernel : decode prog_10_method_23_code 153 = .ok (.bipush 111, 2)) (by decide) ?_
            refine g_bipush (v := nI 108) (by decide +kernel : decode prog_10_method_23_code 155 = .ok (.bipush 108, 2)) (by decide) ?_
            refine g_bipush (v := nI 97) (by decide +kernel : decode prog_10_method_23_code 157 = .ok (.bipush 97, 2)) (by decide) ?_
            refine g_callVI [.int (nI 3), .int (nI 111), .int (nI 108), .int (nI 97)] (by decide +kernel : decode prog_10_method_23_code 159 = .ok (.invokevirtual 104, 3)) lk_Md_104 (m_isSame σ f b hT (nI 0) 3 4 5 111 108 97 rfl rfl (by omega) (by decide) (by decide) (by decide) ) rfl rfl rfl rfl (Nat.le_of_ble_eq_true rfl) (Nat.le_of_ble_eq_true rfl) (fun r159 s159 h159 => ?_)
            rcases h159 with ⟨rfl, ⟨rfl, q159⟩ | ⟨rfl, q159⟩⟩
            · refine g_if_eqN (tgt := 167) (by decide +kernel : decode prog_10_method_23_code 162 = .ok (.ifCond .eq 5, 3)) (by decide) (by decide) (fun h => False.elim (by revert h; decide)) (fun _ => ?_)
              refine g_iconst (v := nI 4) (by decide +kernel : decode prog_10_method_23_code 165 = .ok (.iconst 4, 1)) (by decide) ?_
              exact g_iret hR (by decide +kernel : decode prog_10_method_23_code 166 = .ok (.ireturn, 1)) rfl ⟨_, rfl, ⟨by unfold kdW; rw [if_neg n_child, if_neg n_widower, if_neg n_keeper, if_neg n_grandson, if_pos (nm_scholar.mpr ⟨by omega, by omega, by omega, by omega, by omega, by omega, by omega, by omega, by omega⟩)]; rfl, rfl⟩⟩
            · refine g_if_eqN (tgt := 167) (by decide +kernel : decode prog_10_method_23_code 162 = .ok (.ifCond .eq 5, 3)) (by decide) (by decide) (fun _ => ?_) (fun h => False.elim (by revert h; decide))
              exact J167 (fun z => by have z9 := nm_scholar.mp z; omega)
          · refine g_if_eqN (tgt := 167) (by decide +kernel : decode prog_10_method_23_code 148 = .ok (.ifCond .eq 19, 3)) (by decide) (by decide) (fun _ => ?_) (fun h => False.elim (by revert h; decide))
            exact J167 (fun z => by have z9 := nm_scholar.mp z; omega)
        refine g_aload_n (by decide +kernel : decode prog_10_method_23_code 85 = .ok (.aload_n 0, 1)) rfl ?_
        refine g_bipush (v := nI 8) (by decide +kernel : decode prog_10_method_23_code 86 = .ok (.bipush 8, 2)) (by decide) ?_
        refine g_bipush (v := nI 103) (by decide +kernel : decode prog_10_method_23_code 88 = .ok (.bipush 103, 2)) (by decide) ?_
        refine g_bipush (v := nI 114) (by decide +kernel : decode prog_10_method_23_code 90 = .ok (.bipush 114, 2)) (by decide) ?_
        refine g_bipush (v := nI 97) (by decide +kernel : decode prog_10_method_23_code 92 = .ok (.bipush 97, 2)) (by decide) ?_
        refine g_bipush (v := nI 110) (by decide +kernel : decode prog_10_method_23_code 94 = .ok (.bipush 110, 2)) (by decide) ?_
        refine g_callVI [.int (nI 8), .int (nI 103), .int (nI 114), .int (nI 97), .int (nI 110)] (by decide +kernel : decode prog_10_method_23_code 96 = .ok (.invokevirtual 97, 3)) lk_Md_97 (m_isName σ f b hT (nI 0) (by omega) 8 7 103 114 97 110 rfl (by decide) (by decide) (by decide) (by decide) (by decide) (by decide) ) rfl rfl rfl rfl (Nat.le_of_ble_eq_true rfl) (Nat.le_of_ble_eq_true rfl) (fun r96 s96 h96 => ?_)
        rcases h96 with ⟨rfl, ⟨rfl, q96⟩ | ⟨rfl, q96⟩⟩
        · refine g_if_eqN (tgt := 134) (by decide +kernel : decode prog_10_method_23_code 99 = .ok (.ifCond .eq 35, 3)) (by decide) (by decide) (fun h => False.elim (by revert h; decide)) (fun _ => ?_)
          refine g_aload_n (by decide +kernel : decode prog_10_method_23_code 102 = .ok (.aload_n 0, 1)) rfl ?_
          refine g_iconst (v := nI 3) (by decide +kernel : decode prog_10_method_23_code 103 = .ok (.iconst 3, 1)) (by decide) ?_
          refine g_bipush (v := nI 110) (by decide +kernel : decode prog_10_method_23_code 104 = .ok (.bipush 110, 2)) (by decide) ?_
          refine g_bipush (v := nI 100) (by decide +kernel : decode prog_10_method_23_code 106 = .ok (.bipush 100, 2)) (by decide) ?_
          refine g_bipush (v := nI 115) (by decide +kernel : decode prog_10_method_23_code 108 = .ok (.bipush 115, 2)) (by decide) ?_
          refine g_callVI [.int (nI 3), .int (nI 110), .int (nI 100), .int (nI 115)] (by decide +kernel : decode prog_10_method_23_code 110 = .ok (.invokevirtual 104, 3)) lk_Md_104 (m_isSame σ f b hT (nI 0) 3 4 5 110 100 115 rfl rfl (by omega) (by decide) (by decide) (by decide) ) rfl rfl rfl rfl (Nat.le_of_ble_eq_true rfl) (Nat.le_of_ble_eq_true rfl) (fun r110 s110 h110 => ?_)
          rcases h110 with ⟨rfl, ⟨rfl, q110⟩ | ⟨rfl, q110⟩⟩
          · refine g_if_eqN (tgt := 134) (by decide +kernel : decode prog_10_method_23_code 113 = .ok (.ifCond .eq 21, 3)) (by decide) (by decide) (fun h => False.elim (by revert h; decide)) (fun _ => ?_)
            refine g_aload_n (by decide +kernel : decode prog_10_method_23_code 116 = .ok (.aload_n 0, 1)) rfl ?_
            refine g_aload_n (by decide +kernel : decode prog_10_method_23_code 117 = .ok (.aload_n 0, 1)) rfl ?_
            refine g_getI (by decide +kernel : decode prog_10_method_23_code 118 = .ok (.getfield 70, 3)) fl_Md_70.get rfl rfl ?_
            refine g_top (w := nI q) (rfl) ?_
            refine g_bipush (v := nI 6) (by decide +kernel : decode prog_10_method_23_code 121 = .ok (.bipush 6, 2)) (by decide) ?_
            refine g_iaddN (by decide +kernel : decode prog_10_method_23_code 123 = .ok (.iadd, 1)) ?_
            have c124 := Bt_b (i := q + 6) hT (by omega)
            refine g_callVI [.int (nI (q + 6))] (by decide +kernel : decode prog_10_method_23_code 124 = .ok (.invokevirtual 73, 3)) lk_Md_73 (m_byI hT (q + 6) (by omega)) rfl rfl rfl rfl (Nat.le_of_ble_eq_true rfl) (Nat.le_of_ble_eq_true rfl) (fun r124 s124 h124 => ?_)
            obtain ⟨rfl, rfl⟩ := h124
            refine g_bipush (v := nI 111) (by decide +kernel : decode prog_10_method_23_code 127 = .ok (.bipush 111, 2)) (by decide) ?_
            refine g_icmp_neN (tgt := 134) (by decide +kernel : decode prog_10_method_23_code 129 = .ok (.if_icmp .ne 5, 3)) (by decide) (by omega) (by decide) (fun h129 => ?_) (fun h129 => ?_)
            · exact J134 (fun z => by have z9 := nm_grandson.mp z; omega)
            · refine g_iconst (v := nI 3) (by decide +kernel : decode prog_10_method_23_code 132 = .ok (.iconst 3, 1)) (by decide) ?_
              exact g_iret hR (by decide +kernel : decode prog_10_method_23_code 133 = .ok (.ireturn, 1)) rfl ⟨_, rfl, ⟨by unfold kdW; rw [if_neg n_child, if_neg n_widower, if_neg n_keeper, if_pos (nm_grandson.mpr ⟨by omega, by omega, by omega, by omega, by omega, by omega, by omega, by omega, by omega, by omega⟩)]; rfl, rfl⟩⟩
          · refine g_if_eqN (tgt := 134) (by decide +kernel : decode prog_10_method_23_code 113 = .ok (.ifCond .eq 21, 3)) (by decide) (by decide) (fun _ => ?_) (fun h => False.elim (by revert h; decide))
            exact J134 (fun z => by have z9 := nm_grandson.mp z; omega)
        · refine g_if_eqN (tgt := 134) (by decide +kernel : decode prog_10_method_23_code 99 = .ok (.ifCond .eq 35, 3)) (by decide) (by decide) (fun _ => ?_) (fun h => False.elim (by revert h; decide))
          exact J134 (fun z => by have z9 := nm_grandson.mp z; omega)
      refine g_aload_n (by decide +kernel : decode prog_10_method_23_code 52 = .ok (.aload_n 0, 1)) rfl ?_
      refine g_bipush (v := nI 6) (by decide +kernel : decode prog_10_method_23_code 53 = .ok (.bipush 6, 2)) (by decide) ?_
      refine g_bipush (v := nI 107) (by decide +kernel : decode prog_10_method_23_code 55 = .ok (.bipush 107, 2)) (by decide) ?_
      refine g_bipush (v := nI 101) (by decide +kernel : decode prog_10_method_23_code 57 = .ok (.bipush 101, 2)) (by decide) ?_
      refine g_bipush (v := nI 101) (by decide +kernel : decode prog_10_method_23_code 59 = .ok (.bipush 101, 2)) (by decide) ?_
      refine g_bipush (v := nI 114) (by decide +kernel : decode prog_10_method_23_code 61 = .ok (.bipush 114, 2)) (by decide) ?_
      refine g_callVI [.int (nI 6), .int (nI 107), .int (nI 101), .int (nI 101), .int (nI 114)] (by decide +kernel : decode prog_10_method_23_code 63 = .ok (.invokevirtual 97, 3)) lk_Md_97 (m_isName σ f b hT (nI 0) (by omega) 6 5 107 101 101 114 rfl (by decide) (by decide) (by decide) (by decide) (by decide) (by decide) ) rfl rfl rfl rfl (Nat.le_of_ble_eq_true rfl) (Nat.le_of_ble_eq_true rfl) (fun r63 s63 h63 => ?_)
      rcases h63 with ⟨rfl, ⟨rfl, q63⟩ | ⟨rfl, q63⟩⟩
      · refine g_if_eqN (tgt := 85) (by decide +kernel : decode prog_10_method_23_code 66 = .ok (.ifCond .eq 19, 3)) (by decide) (by decide) (fun h => False.elim (by revert h; decide)) (fun _ => ?_)
        refine g_aload_n (by decide +kernel : decode prog_10_method_23_code 69 = .ok (.aload_n 0, 1)) rfl ?_
        refine g_iconst (v := nI 2) (by decide +kernel : decode prog_10_method_23_code 70 = .ok (.iconst 2, 1)) (by decide) ?_
        refine g_bipush (v := nI 101) (by decide +kernel : decode prog_10_method_23_code 71 = .ok (.bipush 101, 2)) (by decide) ?_
        refine g_bipush (v := nI 112) (by decide +kernel : decode prog_10_method_23_code 73 = .ok (.bipush 112, 2)) (by decide) ?_
        refine g_bipush (v := nI 101) (by decide +kernel : decode prog_10_method_23_code 75 = .ok (.bipush 101, 2)) (by decide) ?_
        refine g_callVI [.int (nI 2), .int (nI 101), .int (nI 112), .int (nI 101)] (by decide +kernel : decode prog_10_method_23_code 77 = .ok (.invokevirtual 104, 3)) lk_Md_104 (m_isSame σ f b hT (nI 0) 2 3 4 101 112 101 rfl rfl (by omega) (by decide) (by decide) (by decide) ) rfl rfl rfl rfl (Nat.le_of_ble_eq_true rfl) (Nat.le_of_ble_eq_true rfl) (fun r77 s77 h77 => ?_)
        rcases h77 with ⟨rfl, ⟨rfl, q77⟩ | ⟨rfl, q77⟩⟩
        · refine g_if_eqN (tgt := 85) (by decide +kernel : decode prog_10_method_23_code 80 = .ok (.ifCond .eq 5, 3)) (by decide) (by decide) (fun h => False.elim (by revert h; decide)) (fun _ => ?_)
          refine g_iconst (v := nI 2) (by decide +kernel : decode prog_10_method_23_code 83 = .ok (.iconst 2, 1)) (by decide) ?_
          exact g_iret hR (by decide +kernel : decode prog_10_method_23_code 84 = .ok (.ireturn, 1)) rfl ⟨_, rfl, ⟨by unfold kdW; rw [if_neg n_child, if_neg n_widower, if_pos (nm_keeper.mpr ⟨by omega, by omega, by omega, by omega, by omega, by omega, by omega, by omega⟩)]; rfl, rfl⟩⟩
        · refine g_if_eqN (tgt := 85) (by decide +kernel : decode prog_10_method_23_code 80 = .ok (.ifCond .eq 5, 3)) (by decide) (by decide) (fun _ => ?_) (fun h => False.elim (by revert h; decide))
          exact J85 (fun z => by have z9 := nm_keeper.mp z; omega)
      · refine g_if_eqN (tgt := 85) (by decide +kernel : decode prog_10_method_23_code 66 = .ok (.ifCond .eq 19, 3)) (by decide) (by decide) (fun _ => ?_) (fun h => False.elim (by revert h; decide))
        exact J85 (fun z => by have z9 := nm_keeper.mp z; omega)
    refine g_aload_n (by decide +kernel : decode prog_10_method_23_code 19 = .ok (.aload_n 0, 1)) rfl ?_
    refine g_bipush (v := nI 7) (by decide +kernel : decode prog_10_method_23_code 20 = .ok (.bipush 7, 2)) (by decide) ?_
    refine g_bipush (v := nI 119) (by decide +kernel : decode prog_10_method_23_code 22 = .ok (.bipush 119, 2)) (by decide) ?_
    refine g_bipush (v := nI 105) (by decide +kernel : decode prog_10_method_23_code 24 = .ok (.bipush 105, 2)) (by decide) ?_
    refine g_bipush (v := nI 100) (by decide +kernel : decode prog_10_method_23_code 26 = .ok (.bipush 100, 2)) (by decide) ?_
    refine g_bipush (v := nI 114) (by decide +kernel : decode prog_10_method_23_code 28 = .ok (.bipush 114, 2)) (by decide) ?_
    refine g_callVI [.int (nI 7), .int (nI 119), .int (nI 105), .int (nI 100), .int (nI 114)] (by decide +kernel : decode prog_10_method_23_code 30 = .ok (.invokevirtual 97, 3)) lk_Md_97 (m_isName σ f b hT (nI 0) (by omega) 7 6 119 105 100 114 rfl (by decide) (by decide) (by decide) (by decide) (by decide) (by decide) ) rfl rfl rfl rfl (Nat.le_of_ble_eq_true rfl) (Nat.le_of_ble_eq_true rfl) (fun r30 s30 h30 => ?_)
    rcases h30 with ⟨rfl, ⟨rfl, q30⟩ | ⟨rfl, q30⟩⟩
    · refine g_if_eqN (tgt := 52) (by decide +kernel : decode prog_10_method_23_code 33 = .ok (.ifCond .eq 19, 3)) (by decide) (by decide) (fun h => False.elim (by revert h; decide)) (fun _ => ?_)
      refine g_aload_n (by decide +kernel : decode prog_10_method_23_code 36 = .ok (.aload_n 0, 1)) rfl ?_
      refine g_iconst (v := nI 3) (by decide +kernel : decode prog_10_method_23_code 37 = .ok (.iconst 3, 1)) (by decide) ?_
      refine g_bipush (v := nI 111) (by decide +kernel : decode prog_10_method_23_code 38 = .ok (.bipush 111, 2)) (by decide) ?_
      refine g_bipush (v := nI 119) (by decide +kernel : decode prog_10_method_23_code 40 = .ok (.bipush 119, 2)) (by decide) ?_
      refine g_bipush (v := nI 101) (by decide +kernel : decode prog_10_method_23_code 42 = .ok (.bipush 101, 2)) (by decide) ?_
      refine g_callVI [.int (nI 3), .int (nI 111), .int (nI 119), .int (nI 101)] (by decide +kernel : decode prog_10_method_23_code 44 = .ok (.invokevirtual 104, 3)) lk_Md_104 (m_isSame σ f b hT (nI 0) 3 4 5 111 119 101 rfl rfl (by omega) (by decide) (by decide) (by decide) ) rfl rfl rfl rfl (Nat.le_of_ble_eq_true rfl) (Nat.le_of_ble_eq_true rfl) (fun r44 s44 h44 => ?_)
      rcases h44 with ⟨rfl, ⟨rfl, q44⟩ | ⟨rfl, q44⟩⟩
      · refine g_if_eqN (tgt := 52) (by decide +kernel : decode prog_10_method_23_code 47 = .ok (.ifCond .eq 5, 3)) (by decide) (by decide) (fun h => False.elim (by revert h; decide)) (fun _ => ?_)
        refine g_iconst (v := nI 1) (by decide +kernel : decode prog_10_method_23_code 50 = .ok (.iconst 1, 1)) (by decide) ?_
        exact g_iret hR (by decide +kernel : decode prog_10_method_23_code 51 = .ok (.ireturn, 1)) rfl ⟨_, rfl, ⟨by unfold kdW; rw [if_neg n_child, if_pos (nm_widower.mpr ⟨by omega, by omega, by omega, by omega, by omega, by omega, by omega, by omega, by omega⟩)]; rfl, rfl⟩⟩
      · refine g_if_eqN (tgt := 52) (by decide +kernel : decode prog_10_method_23_code 47 = .ok (.ifCond .eq 5, 3)) (by decide) (by decide) (fun _ => ?_) (fun h => False.elim (by revert h; decide))
        exact J52 (fun z => by have z9 := nm_widower.mp z; omega)
    · refine g_if_eqN (tgt := 52) (by decide +kernel : decode prog_10_method_23_code 33 = .ok (.ifCond .eq 19, 3)) (by decide) (by decide) (fun _ => ?_) (fun h => False.elim (by revert h; decide))
      exact J52 (fun z => by have z9 := nm_widower.mp z; omega)
  refine g_aload_n (by decide +kernel : decode prog_10_method_23_code 0 = .ok (.aload_n 0, 1)) rfl ?_
  refine g_bipush (v := nI 99) (by decide +kernel : decode prog_10_method_23_code 1 = .ok (.bipush 99, 2)) (by decide) ?_
  refine g_bipush (v := nI 104) (by decide +kernel : decode prog_10_method_23_code 3 = .ok (.bipush 104, 2)) (by decide) ?_
  refine g_bipush (v := nI 105) (by decide +kernel : decode prog_10_method_23_code 5 = .ok (.bipush 105, 2)) (by decide) ?_
  refine g_bipush (v := nI 108) (by decide +kernel : decode prog_10_method_23_code 7 = .ok (.bipush 108, 2)) (by decide) ?_
  refine g_bipush (v := nI 100) (by decide +kernel : decode prog_10_method_23_code 9 = .ok (.bipush 100, 2)) (by decide) ?_
  refine g_callVI [.int (nI 99), .int (nI 104), .int (nI 105), .int (nI 108), .int (nI 100)] (by decide +kernel : decode prog_10_method_23_code 11 = .ok (.invokevirtual 101, 3)) lk_Md_101 (m_isFive σ f b hT (nI 0) (by omega) 99 104 105 108 100 (by decide) (by decide) (by decide) (by decide) (by decide) ) rfl rfl rfl rfl (Nat.le_of_ble_eq_true rfl) (Nat.le_of_ble_eq_true rfl) (fun r11 s11 h11 => ?_)
  rcases h11 with ⟨rfl, ⟨rfl, q11⟩ | ⟨rfl, q11⟩⟩
  · refine g_if_eqN (tgt := 19) (by decide +kernel : decode prog_10_method_23_code 14 = .ok (.ifCond .eq 5, 3)) (by decide) (by decide) (fun h => False.elim (by revert h; decide)) (fun _ => ?_)
    refine g_iconst (v := nI 0) (by decide +kernel : decode prog_10_method_23_code 17 = .ok (.iconst 0, 1)) (by decide) ?_
    exact g_iret hR (by decide +kernel : decode prog_10_method_23_code 18 = .ok (.ireturn, 1)) rfl ⟨_, rfl, ⟨by unfold kdW; rw [if_pos (nm_child.mpr ⟨by omega, by omega, by omega, by omega, by omega, by omega, by omega⟩)]; rfl, rfl⟩⟩
  · refine g_if_eqN (tgt := 19) (by decide +kernel : decode prog_10_method_23_code 14 = .ok (.ifCond .eq 5, 3)) (by decide) (by decide) (fun _ => ?_) (fun h => False.elim (by revert h; decide))
    exact J19 (fun z => by have z9 := nm_child.mp z; omega)
set_option maxRecDepth 20000 in
theorem m_lawHere (σ : Store) (f b : Row) {t : Nat} (hT : TP σ t) {q : Nat} (hq : q ≤ t) : Ct ΛM mt_Md_lawHere 3 [.ref 0] (mS (kS σ (nI (kd (Bt σ) t q)) (nI q) (nI (en (Bt σ) t q)) (nI (vl (Bt σ) t q)) (nI 0)) f b) (PF (oM 3 (lwW (Bt σ) t q)) (mS (tS σ t (nI 0) q) f b)) := by
  refine Ct.of (by decide) (Nat.le_of_ble_eq_true rfl) (fun X hR => ?_)
  show G (ΛM, mt_Md_lawHere, 3) X (mS (kS σ (nI (kd (Bt σ) t q)) (nI q) (nI (en (Bt σ) t q)) (nI (vl (Bt σ) t q)) (nI 0)) f b) [some (.ref 0)] [] 0
  have h200 := hT.2.1
  have hen := en_b (B := Bt σ) hq
  have hvl := vl_b (B := Bt σ) (t := t) (q := q)
  have hkd := kd_le (Bt σ) t q
  refine g_aload_n (by decide +kernel : decode prog_10_method_29_code 0 = .ok (.aload_n 0, 1)) rfl ?_
  refine g_iconst (v := nI 3) (by decide +kernel : decode prog_10_method_29_code 1 = .ok (.iconst 3, 1)) (by decide) ?_
  refine g_bipush (v := nI 111) (by decide +kernel : decode prog_10_method_29_code 2 = .ok (.bipush 111, 2)) (by decide) ?_
  refine g_bipush (v := nI 117) (by decide +kernel : decode prog_10_method_29_code 4 = .ok (.bipush 117, 2)) (by decide) ?_
  refine g_bipush (v := nI 116) (by decide +kernel : decode prog_10_method_29_code 6 = .ok (.bipush 116, 2)) (by decide) ?_
  refine g_bipush (v := nI 116) (by decide +kernel : decode prog_10_method_29_code 8 = .ok (.bipush 116, 2)) (by decide) ?_
  refine g_callVI [.int (nI 3), .int (nI 111), .int (nI 117), .int (nI 116), .int (nI 116)] (by decide +kernel : decode prog_10_method_29_code 10 = .ok (.invokevirtual 97, 3)) lk_Md_97 (m_isName σ f b hT (nI 0) (by omega) 3 2 111 117 116 116 rfl (by decide) (by decide) (by decide) (by decide) (by decide) (by decide) ) rfl rfl rfl rfl (Nat.le_of_ble_eq_true rfl) (Nat.le_of_ble_eq_true rfl) (fun r10 s10 h10 => ?_)
  rcases h10 with ⟨rfl, ⟨rfl, q10⟩ | ⟨rfl, q10⟩⟩
  · refine g_if_eqN (tgt := 18) (by decide +kernel : decode prog_10_method_29_code 13 = .ok (.ifCond .eq 5, 3)) (by decide) (by decide) (fun h => False.elim (by revert h; decide)) (fun _ => ?_)
    refine g_iconst (v := nI 3) (by decide +kernel : decode prog_10_method_29_code 16 = .ok (.iconst 3, 1)) (by decide) ?_
    exact g_iret hR (by decide +kernel : decode prog_10_method_29_code 17 = .ok (.ireturn, 1)) rfl ⟨_, rfl, ⟨by unfold lwW; rw [if_pos (nm_out.mpr ⟨by omega, by omega, by omega, by omega, by omega⟩)]; rfl, rfl⟩⟩
  · refine g_if_eqN (tgt := 18) (by decide +kernel : decode prog_10_method_29_code 13 = .ok (.ifCond .eq 5, 3)) (by decide) (by decide) (fun _ => ?_) (fun h => False.elim (by revert h; decide))
    refine g_aload_n (by decide +kernel : decode prog_10_method_29_code 18 = .ok (.aload_n 0, 1)) rfl ?_
    refine g_bipush (v := nI 100) (by decide +kernel : decode prog_10_method_29_code 19 = .ok (.bipush 100, 2)) (by decide) ?_
    refine g_bipush (v := nI 97) (by decide +kernel : decode prog_10_method_29_code 21 = .ok (.bipush 97, 2)) (by decide) ?_
    refine g_bipush (v := nI 114) (by decide +kernel : decode prog_10_method_29_code 23 = .ok (.bipush 114, 2)) (by decide) ?_
    refine g_bipush (v := nI 107) (by decide +kernel : decode prog_10_method_29_code 25 = .ok (.bipush 107, 2)) (by decide) ?_
    refine g_callVI [.int (nI 100), .int (nI 97), .int (nI 114), .int (nI 107)] (by decide +kernel : decode prog_10_method_29_code 27 = .ok (.invokevirtual 108, 3)) lk_Md_108 (m_isFour σ f b hT (nI 0) (by omega) 100 97 114 107 (by decide) (by decide) (by decide) (by decide) ) rfl rfl rfl rfl (Nat.le_of_ble_eq_true rfl) (Nat.le_of_ble_eq_true rfl) (fun r27 s27 h27 => ?_)
    rcases h27 with ⟨rfl, ⟨rfl, q27⟩ | ⟨rfl, q27⟩⟩
    · refine g_if_eqN (tgt := 35) (by decide +kernel : decode prog_10_method_29_code 30 = .ok (.ifCond .eq 5, 3)) (by decide) (by decide) (fun h => False.elim (by revert h; decide)) (fun _ => ?_)
      refine g_iconst (v := nI 4) (by decide +kernel : decode prog_10_method_29_code 33 = .ok (.iconst 4, 1)) (by decide) ?_
      exact g_iret hR (by decide +kernel : decode prog_10_method_29_code 34 = .ok (.ireturn, 1)) rfl ⟨_, rfl, ⟨by unfold lwW; rw [if_neg (fun z => by have z9 := nm_out.mp z; omega), if_pos (nm_dark.mpr ⟨by omega, by omega, by omega, by omega, by omega, by omega⟩)]; rfl, rfl⟩⟩
    · refine g_if_eqN (tgt := 35) (by decide +kernel : decode prog_10_method_29_code 30 = .ok (.ifCond .eq 5, 3)) (by decide) (by decide) (fun _ => ?_) (fun h => False.elim (by revert h; decide))
      refine g_aload_n (by decide +kernel : decode prog_10_method_29_code 35 = .ok (.aload_n 0, 1)) rfl ?_
      refine g_bipush (v := nI 108) (by decide +kernel : decode prog_10_method_29_code 36 = .ok (.bipush 108, 2)) (by decide) ?_
      refine g_bipush (v := nI 97) (by decide +kernel : decode prog_10_method_29_code 38 = .ok (.bipush 97, 2)) (by decide) ?_
      refine g_bipush (v := nI 109) (by decide +kernel : decode prog_10_method_29_code 40 = .ok (.bipush 109, 2)) (by decide) ?_
      refine g_bipush (v := nI 112) (by decide +kernel : decode prog_10_method_29_code 42 = .ok (.bipush 112, 2)) (by decide) ?_
      refine g_callVI [.int (nI 108), .int (nI 97), .int (nI 109), .int (nI 112)] (by decide +kernel : decode prog_10_method_29_code 44 = .ok (.invokevirtual 108, 3)) lk_Md_108 (m_isFour σ f b hT (nI 0) (by omega) 108 97 109 112 (by decide) (by decide) (by decide) (by decide) ) rfl rfl rfl rfl (Nat.le_of_ble_eq_true rfl) (Nat.le_of_ble_eq_true rfl) (fun r44 s44 h44 => ?_)
      rcases h44 with ⟨rfl, ⟨rfl, q44⟩ | ⟨rfl, q44⟩⟩
      · refine g_if_eqN (tgt := 52) (by decide +kernel : decode prog_10_method_29_code 47 = .ok (.ifCond .eq 5, 3)) (by decide) (by decide) (fun h => False.elim (by revert h; decide)) (fun _ => ?_)
        refine g_iconst (v := nI 5) (by decide +kernel : decode prog_10_method_29_code 50 = .ok (.iconst 5, 1)) (by decide) ?_
        exact g_iret hR (by decide +kernel : decode prog_10_method_29_code 51 = .ok (.ireturn, 1)) rfl ⟨_, rfl, ⟨by unfold lwW; rw [if_neg (fun z => by have z9 := nm_out.mp z; omega), if_neg (fun z => by have z9 := nm_dark.mp z; omega), if_pos (nm_lamp.mpr ⟨by omega, by omega, by omega, by omega, by omega, by omega⟩)]; rfl, rfl⟩⟩
      · refine g_if_eqN (tgt := 52) (by decide +kernel : decode prog_10_method_29_code 47 = .ok (.ifCond .eq 5, 3)) (by decide) (by decide) (fun _ => ?_) (fun h => False.elim (by revert h; decide))
        refine g_aload_n (by decide +kernel : decode prog_10_method_29_code 52 = .ok (.aload_n 0, 1)) rfl ?_
        refine g_bipush (v := nI 112) (by decide +kernel : decode prog_10_method_29_code 53 = .ok (.bipush 112, 2)) (by decide) ?_
        refine g_bipush (v := nI 101) (by decide +kernel : decode prog_10_method_29_code 55 = .ok (.bipush 101, 2)) (by decide) ?_
        refine g_bipush (v := nI 101) (by decide +kernel : decode prog_10_method_29_code 57 = .ok (.bipush 101, 2)) (by decide) ?_
        refine g_bipush (v := nI 112) (by decide +kernel : decode prog_10_method_29_code 59 = .ok (.bipush 112, 2)) (by decide) ?_
        refine g_callVI [.int (nI 112), .int (nI 101), .int (nI 101), .int (nI 112)] (by decide +kernel : decode prog_10_method_29_code 61 = .ok (.invokevirtual 108, 3)) lk_Md_108 (m_isFour σ f b hT (nI 0) (by omega) 112 101 101 112 (by decide) (by decide) (by decide) (by decide) ) rfl rfl rfl rfl (Nat.le_of_ble_eq_true rfl) (Nat.le_of_ble_eq_true rfl) (fun r61 s61 h61 => ?_)
        rcases h61 with ⟨rfl, ⟨rfl, q61⟩ | ⟨rfl, q61⟩⟩
        · refine g_if_eqN (tgt := 72) (by decide +kernel : decode prog_10_method_29_code 64 = .ok (.ifCond .eq 8, 3)) (by decide) (by decide) (fun h => False.elim (by revert h; decide)) (fun _ => ?_)
          refine g_bipush (v := nI 6) (by decide +kernel : decode prog_10_method_29_code 67 = .ok (.bipush 6, 2)) (by decide) ?_
          refine g_goto (tgt := 73) (by decide +kernel : decode prog_10_method_29_code 69 = .ok (.goto 4, 3)) (by decide) ?_
          exact g_iret hR (by decide +kernel : decode prog_10_method_29_code 73 = .ok (.ireturn, 1)) rfl ⟨_, rfl, ⟨by unfold lwW; rw [if_neg (fun z => by have z9 := nm_out.mp z; omega), if_neg (fun z => by have z9 := nm_dark.mp z; omega), if_neg (fun z => by have z9 := nm_lamp.mp z; omega), if_pos (nm_peep.mpr ⟨by omega, by omega, by omega, by omega, by omega, by omega⟩)]; rfl, rfl⟩⟩
        · refine g_if_eqN (tgt := 72) (by decide +kernel : decode prog_10_method_29_code 64 = .ok (.ifCond .eq 8, 3)) (by decide) (by decide) (fun _ => ?_) (fun h => False.elim (by revert h; decide))
          refine g_iconst (v := (-1)) (by decide +kernel : decode prog_10_method_29_code 72 = .ok (.iconst (-1), 1)) (by decide) ?_
          exact g_iret hR (by decide +kernel : decode prog_10_method_29_code 73 = .ok (.ireturn, 1)) rfl ⟨_, rfl, ⟨by unfold lwW; rw [if_neg (fun z => by have z9 := nm_out.mp z; omega), if_neg (fun z => by have z9 := nm_dark.mp z; omega), if_neg (fun z => by have z9 := nm_lamp.mp z; omega), if_neg (fun z => by have z9 := nm_peep.mp z; omega)]; rfl, rfl⟩⟩
set_option maxRecDepth 20000 in
theorem m_numW (σ : Store) (f b : Row) {t : Nat} (hT : TP σ t) (x : Int32) (m : Nat) (hm : m < 2 ^ 31) {q : Nat} (hq : q ≤ t) : Ct ΛM mt_Md_numberTo 3 [.ref 0, .int x, .int (nI m)] (mS (kS σ (nI (kd (Bt σ) t q)) (nI q) (nI (en (Bt σ) t q)) (nI (vl (Bt σ) t q)) (nI 1)) f b) (PU (mS (tS σ t (nI 1) q) f b)) := by
  refine Ct.of (by decide) (Nat.le_of_ble_eq_true rfl) (fun X hR => ?_)
  show G (ΛM, mt_Md_numberTo, 3) X (mS (kS σ (nI (kd (Bt σ) t q)) (nI q) (nI (en (Bt σ) t q)) (nI (vl (Bt σ) t q)) (nI 1)) f b) [some (.ref 0), some (.int x), some (.int (nI m)), none] [] 0
  have h200 := hT.2.1
  have hen := en_b (B := Bt σ) hq
  have hvl := vl_b (B := Bt σ) (t := t) (q := q)
  have hkd := kd_le (Bt σ) t q
  refine g_aload_n (by decide +kernel : decode prog_10_method_24_code 0 = .ok (.aload_n 0, 1)) rfl ?_
  refine g_getI (by decide +kernel : decode prog_10_method_24_code 1 = .ok (.getfield 84, 3)) fl_Md_84.get rfl rfl ?_
  refine g_top (w := nI (kd (Bt σ) t q)) (rfl) ?_
  refine g_iconst (v := nI 2) (by decide +kernel : decode prog_10_method_24_code 4 = .ok (.iconst 2, 1)) (by decide) ?_
  refine g_icmp_neN (tgt := 33) (by decide +kernel : decode prog_10_method_24_code 5 = .ok (.if_icmp .ne 28, 3)) (by decide) (by omega) (by decide) (fun h5 => ?_) (fun h5 => ?_)
  · refine g_iconst (v := nI 0) (by decide +kernel : decode prog_10_method_24_code 33 = .ok (.iconst 0, 1)) (by decide) ?_
    refine g_istore_n (L' := [some (.ref 0), some (.int x), some (.int (nI m)), some (.int (nI 0))]) (by decide +kernel : decode prog_10_method_24_code 34 = .ok (.istore_n 3, 1)) (Nat.le_of_ble_eq_true rfl) rfl ?_
    refine g_iload_n (by decide +kernel : decode prog_10_method_24_code 35 = .ok (.iload_n 3, 1)) rfl ?_
    refine g_if_eqN (tgt := 56) (by decide +kernel : decode prog_10_method_24_code 36 = .ok (.ifCond .eq 20, 3)) (by decide) (by decide) (fun _ => ?_) (fun h => False.elim (by revert h; decide))
    refine g_aload_n (by decide +kernel : decode prog_10_method_24_code 56 = .ok (.aload_n 0, 1)) rfl ?_
    refine g_iload_n (by decide +kernel : decode prog_10_method_24_code 57 = .ok (.iload_n 3, 1)) rfl ?_
    refine g_callVV [.int (nI 0)] (by decide +kernel : decode prog_10_method_24_code 58 = .ok (.invokevirtual 111, 3)) lk_Md_111 (m_needsW σ f b hT (nI 0) q) rfl rfl rfl rfl (Nat.le_of_ble_eq_true rfl) (Nat.le_of_ble_eq_true rfl) (fun s58 h58 => ?_)
    obtain rfl := h58
    exact g_vret hR (by decide +kernel : decode prog_10_method_24_code 61 = .ok (.return_, 1)) rfl ⟨rfl, rfl⟩
  · refine g_aload_n (by decide +kernel : decode prog_10_method_24_code 8 = .ok (.aload_n 0, 1)) rfl ?_
    refine g_getI (by decide +kernel : decode prog_10_method_24_code 9 = .ok (.getfield 67, 3)) fl_Md_67.get rfl rfl ?_
    refine g_top (w := nI (en (Bt σ) t q)) (rfl) ?_
    refine g_aload_n (by decide +kernel : decode prog_10_method_24_code 12 = .ok (.aload_n 0, 1)) rfl ?_
    refine g_getI (by decide +kernel : decode prog_10_method_24_code 13 = .ok (.getfield 70, 3)) fl_Md_70.get rfl rfl ?_
    refine g_top (w := nI q) (rfl) ?_
    refine g_isubN (by decide +kernel : decode prog_10_method_24_code 16 = .ok (.isub, 1)) (by omega) ?_
    refine g_iconst (v := nI 3) (by decide +kernel : decode prog_10_method_24_code 17 = .ok (.iconst 3, 1)) (by decide) ?_
    refine g_icmp_gtN (tgt := 33) (by decide +kernel : decode prog_10_method_24_code 18 = .ok (.if_icmp .gt 15, 3)) (by decide) (by omega) (by decide) (fun h18 => ?_) (fun h18 => ?_)
    · refine g_iconst (v := nI 0) (by decide +kernel : decode prog_10_method_24_code 33 = .ok (.iconst 0, 1)) (by decide) ?_
      refine g_istore_n (L' := [some (.ref 0), some (.int x), some (.int (nI m)), some (.int (nI 0))]) (by decide +kernel : decode prog_10_method_24_code 34 = .ok (.istore_n 3, 1)) (Nat.le_of_ble_eq_true rfl) rfl ?_
      refine g_iload_n (by decide +kernel : decode prog_10_method_24_code 35 = .ok (.iload_n 3, 1)) rfl ?_
      refine g_if_eqN (tgt := 56) (by decide +kernel : decode prog_10_method_24_code 36 = .ok (.ifCond .eq 20, 3)) (by decide) (by decide) (fun _ => ?_) (fun h => False.elim (by revert h; decide))
      refine g_aload_n (by decide +kernel : decode prog_10_method_24_code 56 = .ok (.aload_n 0, 1)) rfl ?_
      refine g_iload_n (by decide +kernel : decode prog_10_method_24_code 57 = .ok (.iload_n 3, 1)) rfl ?_
      refine g_callVV [.int (nI 0)] (by decide +kernel : decode prog_10_method_24_code 58 = .ok (.invokevirtual 111, 3)) lk_Md_111 (m_needsW σ f b hT (nI 0) q) rfl rfl rfl rfl (Nat.le_of_ble_eq_true rfl) (Nat.le_of_ble_eq_true rfl) (fun s58 h58 => ?_)
      obtain rfl := h58
      exact g_vret hR (by decide +kernel : decode prog_10_method_24_code 61 = .ok (.return_, 1)) rfl ⟨rfl, rfl⟩
    · refine g_aload_n (by decide +kernel : decode prog_10_method_24_code 21 = .ok (.aload_n 0, 1)) rfl ?_
      refine g_getI (by decide +kernel : decode prog_10_method_24_code 22 = .ok (.getfield 87, 3)) fl_Md_87.get rfl rfl ?_
      refine g_top (w := nI (vl (Bt σ) t q)) (rfl) ?_
      refine g_iload_n (by decide +kernel : decode prog_10_method_24_code 25 = .ok (.iload_n 2, 1)) rfl ?_
      refine g_icmp_gtN (tgt := 33) (by decide +kernel : decode prog_10_method_24_code 26 = .ok (.if_icmp .gt 7, 3)) (by decide) (by omega) (by omega) (fun h26 => ?_) (fun h26 => ?_)
      · refine g_iconst (v := nI 0) (by decide +kernel : decode prog_10_method_24_code 33 = .ok (.iconst 0, 1)) (by decide) ?_
        refine g_istore_n (L' := [some (.ref 0), some (.int x), some (.int (nI m)), some (.int (nI 0))]) (by decide +kernel : decode prog_10_method_24_code 34 = .ok (.istore_n 3, 1)) (Nat.le_of_ble_eq_true rfl) rfl ?_
        refine g_iload_n (by decide +kernel : decode prog_10_method_24_code 35 = .ok (.iload_n 3, 1)) rfl ?_
        refine g_if_eqN (tgt := 56) (by decide +kernel : decode prog_10_method_24_code 36 = .ok (.ifCond .eq 20, 3)) (by decide) (by decide) (fun _ => ?_) (fun h => False.elim (by revert h; decide))
        refine g_aload_n (by decide +kernel : decode prog_10_method_24_code 56 = .ok (.aload_n 0, 1)) rfl ?_
        refine g_iload_n (by decide +kernel : decode prog_10_method_24_code 57 = .ok (.iload_n 3, 1)) rfl ?_
        refine g_callVV [.int (nI 0)] (by decide +kernel : decode prog_10_method_24_code 58 = .ok (.invokevirtual 111, 3)) lk_Md_111 (m_needsW σ f b hT (nI 0) q) rfl rfl rfl rfl (Nat.le_of_ble_eq_true rfl) (Nat.le_of_ble_eq_true rfl) (fun s58 h58 => ?_)
        obtain rfl := h58
        exact g_vret hR (by decide +kernel : decode prog_10_method_24_code 61 = .ok (.return_, 1)) rfl ⟨rfl, rfl⟩
      · refine g_iconst (v := nI 1) (by decide +kernel : decode prog_10_method_24_code 29 = .ok (.iconst 1, 1)) (by decide) ?_
        refine g_goto (tgt := 34) (by decide +kernel : decode prog_10_method_24_code 30 = .ok (.goto 4, 3)) (by decide) ?_
        refine g_istore_n (L' := [some (.ref 0), some (.int x), some (.int (nI m)), some (.int (nI 1))]) (by decide +kernel : decode prog_10_method_24_code 34 = .ok (.istore_n 3, 1)) (Nat.le_of_ble_eq_true rfl) rfl ?_
        refine g_iload_n (by decide +kernel : decode prog_10_method_24_code 35 = .ok (.iload_n 3, 1)) rfl ?_
        refine g_if_eqN (tgt := 56) (by decide +kernel : decode prog_10_method_24_code 36 = .ok (.ifCond .eq 20, 3)) (by decide) (by decide) (fun h => False.elim (by revert h; decide)) (fun _ => ?_)
        refine g_aload_n (by decide +kernel : decode prog_10_method_24_code 39 = .ok (.aload_n 0, 1)) rfl ?_
        refine g_getI (by decide +kernel : decode prog_10_method_24_code 40 = .ok (.getfield 90, 3)) fl_Md_90.get rfl rfl ?_
        refine g_top (w := nI 1) (rfl) ?_
        refine g_if_neN (tgt := 56) (by decide +kernel : decode prog_10_method_24_code 43 = .ok (.ifCond .ne 13, 3)) (by decide) (by decide) (fun _ => ?_) (fun h => False.elim (by revert h; decide))
        refine g_aload_n (by decide +kernel : decode prog_10_method_24_code 56 = .ok (.aload_n 0, 1)) rfl ?_
        refine g_iload_n (by decide +kernel : decode prog_10_method_24_code 57 = .ok (.iload_n 3, 1)) rfl ?_
        refine g_callVV [.int (nI 1)] (by decide +kernel : decode prog_10_method_24_code 58 = .ok (.invokevirtual 111, 3)) lk_Md_111 (m_needsW σ f b hT (nI 1) q) rfl rfl rfl rfl (Nat.le_of_ble_eq_true rfl) (Nat.le_of_ble_eq_true rfl) (fun s58 h58 => ?_)
        obtain rfl := h58
        exact g_vret hR (by decide +kernel : decode prog_10_method_24_code 61 = .ok (.return_, 1)) rfl ⟨rfl, rfl⟩
set_option maxRecDepth 20000 in
theorem m_num (σ : Store) (f b : Row) {t : Nat} (hT : TP σ t) (a m : Nat) (ha : a < 67) (hm : m < 2 ^ 31) {q : Nat} (hq : q ≤ t) : Ct ΛM mt_Md_numberTo 3 [.ref 0, .int (nI a), .int (nI m)] (mS (kS σ (nI (kd (Bt σ) t q)) (nI q) (nI (en (Bt σ) t q)) (nI (vl (Bt σ) t q)) (nI 0)) f b) (PV (fun σ' => (isN (Bt σ) t m q ∧ σ' = mS (tS σ t (nI 0) (nx (Bt σ) t q)) (upd f a (nI (vl (Bt σ) t q))) b) ∨ (¬ isN (Bt σ) t m q ∧ σ' = mS (tS σ t (nI 1) q) f b))) := by
  refine Ct.of (by decide) (Nat.le_of_ble_eq_true rfl) (fun X hR => ?_)
  show G (ΛM, mt_Md_numberTo, 3) X (mS (kS σ (nI (kd (Bt σ) t q)) (nI q) (nI (en (Bt σ) t q)) (nI (vl (Bt σ) t q)) (nI 0)) f b) [some (.ref 0), some (.int (nI a)), some (.int (nI m)), none] [] 0
  have h200 := hT.2.1
  have hen := en_b (B := Bt σ) hq
  have hvl := vl_b (B := Bt σ) (t := t) (q := q)
  have hkd := kd_le (Bt σ) t q
  refine g_aload_n (by decide +kernel : decode prog_10_method_24_code 0 = .ok (.aload_n 0, 1)) rfl ?_
  refine g_getI (by decide +kernel : decode prog_10_method_24_code 1 = .ok (.getfield 84, 3)) fl_Md_84.get rfl rfl ?_
  refine g_top (w := nI (kd (Bt σ) t q)) (rfl) ?_
  refine g_iconst (v := nI 2) (by decide +kernel : decode prog_10_method_24_code 4 = .ok (.iconst 2, 1)) (by decide) ?_
  refine g_icmp_neN (tgt := 33) (by decide +kernel : decode prog_10_method_24_code 5 = .ok (.if_icmp .ne 28, 3)) (by decide) (by omega) (by decide) (fun h5 => ?_) (fun h5 => ?_)
  · refine g_iconst (v := nI 0) (by decide +kernel : decode prog_10_method_24_code 33 = .ok (.iconst 0, 1)) (by decide) ?_
    refine g_istore_n (L' := [some (.ref 0), some (.int (nI a)), some (.int (nI m)), some (.int (nI 0))]) (by decide +kernel : decode prog_10_method_24_code 34 = .ok (.istore_n 3, 1)) (Nat.le_of_ble_eq_true rfl) rfl ?_
    refine g_iload_n (by decide +kernel : decode prog_10_method_24_code 35 = .ok (.iload_n 3, 1)) rfl ?_
    refine g_if_eqN (tgt := 56) (by decide +kernel : decode prog_10_method_24_code 36 = .ok (.ifCond .eq 20, 3)) (by decide) (by decide) (fun _ => ?_) (fun h => False.elim (by revert h; decide))
    refine g_aload_n (by decide +kernel : decode prog_10_method_24_code 56 = .ok (.aload_n 0, 1)) rfl ?_
    refine g_iload_n (by decide +kernel : decode prog_10_method_24_code 57 = .ok (.iload_n 3, 1)) rfl ?_
    refine g_callVV [.int (nI 0)] (by decide +kernel : decode prog_10_method_24_code 58 = .ok (.invokevirtual 111, 3)) lk_Md_111 (m_needs0 σ f b hT q) rfl rfl rfl rfl (Nat.le_of_ble_eq_true rfl) (Nat.le_of_ble_eq_true rfl) (fun s58 h58 => ?_)
    obtain rfl := h58
    exact g_vret hR (by decide +kernel : decode prog_10_method_24_code 61 = .ok (.return_, 1)) rfl ⟨rfl, Or.inr ⟨fun z => by unfold isN at z; omega, rfl⟩⟩
  · refine g_aload_n (by decide +kernel : decode prog_10_method_24_code 8 = .ok (.aload_n 0, 1)) rfl ?_
    refine g_getI (by decide +kernel : decode prog_10_method_24_code 9 = .ok (.getfield 67, 3)) fl_Md_67.get rfl rfl ?_
    refine g_top (w := nI (en (Bt σ) t q)) (rfl) ?_
    refine g_aload_n (by decide +kernel : decode prog_10_method_24_code 12 = .ok (.aload_n 0, 1)) rfl ?_
    refine g_getI (by decide +kernel : decode prog_10_method_24_code 13 = .ok (.getfield 70, 3)) fl_Md_70.get rfl rfl ?_
    refine g_top (w := nI q) (rfl) ?_
    refine g_isubN (by decide +kernel : decode prog_10_method_24_code 16 = .ok (.isub, 1)) (by omega) ?_
    refine g_iconst (v := nI 3) (by decide +kernel : decode prog_10_method_24_code 17 = .ok (.iconst 3, 1)) (by decide) ?_
    refine g_icmp_gtN (tgt := 33) (by decide +kernel : decode prog_10_method_24_code 18 = .ok (.if_icmp .gt 15, 3)) (by decide) (by omega) (by decide) (fun h18 => ?_) (fun h18 => ?_)
    · refine g_iconst (v := nI 0) (by decide +kernel : decode prog_10_method_24_code 33 = .ok (.iconst 0, 1)) (by decide) ?_
      refine g_istore_n (L' := [some (.ref 0), some (.int (nI a)), some (.int (nI m)), some (.int (nI 0))]) (by decide +kernel : decode prog_10_method_24_code 34 = .ok (.istore_n 3, 1)) (Nat.le_of_ble_eq_true rfl) rfl ?_
      refine g_iload_n (by decide +kernel : decode prog_10_method_24_code 35 = .ok (.iload_n 3, 1)) rfl ?_
      refine g_if_eqN (tgt := 56) (by decide +kernel : decode prog_10_method_24_code 36 = .ok (.ifCond .eq 20, 3)) (by decide) (by decide) (fun _ => ?_) (fun h => False.elim (by revert h; decide))
      refine g_aload_n (by decide +kernel : decode prog_10_method_24_code 56 = .ok (.aload_n 0, 1)) rfl ?_
      refine g_iload_n (by decide +kernel : decode prog_10_method_24_code 57 = .ok (.iload_n 3, 1)) rfl ?_
      refine g_callVV [.int (nI 0)] (by decide +kernel : decode prog_10_method_24_code 58 = .ok (.invokevirtual 111, 3)) lk_Md_111 (m_needs0 σ f b hT q) rfl rfl rfl rfl (Nat.le_of_ble_eq_true rfl) (Nat.le_of_ble_eq_true rfl) (fun s58 h58 => ?_)
      obtain rfl := h58
      exact g_vret hR (by decide +kernel : decode prog_10_method_24_code 61 = .ok (.return_, 1)) rfl ⟨rfl, Or.inr ⟨fun z => by unfold isN at z; omega, rfl⟩⟩
    · refine g_aload_n (by decide +kernel : decode prog_10_method_24_code 21 = .ok (.aload_n 0, 1)) rfl ?_
      refine g_getI (by decide +kernel : decode prog_10_method_24_code 22 = .ok (.getfield 87, 3)) fl_Md_87.get rfl rfl ?_
      refine g_top (w := nI (vl (Bt σ) t q)) (rfl) ?_
      refine g_iload_n (by decide +kernel : decode prog_10_method_24_code 25 = .ok (.iload_n 2, 1)) rfl ?_
      refine g_icmp_gtN (tgt := 33) (by decide +kernel : decode prog_10_method_24_code 26 = .ok (.if_icmp .gt 7, 3)) (by decide) (by omega) (by omega) (fun h26 => ?_) (fun h26 => ?_)
      · refine g_iconst (v := nI 0) (by decide +kernel : decode prog_10_method_24_code 33 = .ok (.iconst 0, 1)) (by decide) ?_
        refine g_istore_n (L' := [some (.ref 0), some (.int (nI a)), some (.int (nI m)), some (.int (nI 0))]) (by decide +kernel : decode prog_10_method_24_code 34 = .ok (.istore_n 3, 1)) (Nat.le_of_ble_eq_true rfl) rfl ?_
        refine g_iload_n (by decide +kernel : decode prog_10_method_24_code 35 = .ok (.iload_n 3, 1)) rfl ?_
        refine g_if_eqN (tgt := 56) (by decide +kernel : decode prog_10_method_24_code 36 = .ok (.ifCond .eq 20, 3)) (by decide) (by decide) (fun _ => ?_) (fun h => False.elim (by revert h; decide))
        refine g_aload_n (by decide +kernel : decode prog_10_method_24_code 56 = .ok (.aload_n 0, 1)) rfl ?_
        refine g_iload_n (by decide +kernel : decode prog_10_method_24_code 57 = .ok (.iload_n 3, 1)) rfl ?_
        refine g_callVV [.int (nI 0)] (by decide +kernel : decode prog_10_method_24_code 58 = .ok (.invokevirtual 111, 3)) lk_Md_111 (m_needs0 σ f b hT q) rfl rfl rfl rfl (Nat.le_of_ble_eq_true rfl) (Nat.le_of_ble_eq_true rfl) (fun s58 h58 => ?_)
        obtain rfl := h58
        exact g_vret hR (by decide +kernel : decode prog_10_method_24_code 61 = .ok (.return_, 1)) rfl ⟨rfl, Or.inr ⟨fun z => by unfold isN at z; omega, rfl⟩⟩
      · refine g_iconst (v := nI 1) (by decide +kernel : decode prog_10_method_24_code 29 = .ok (.iconst 1, 1)) (by decide) ?_
        refine g_goto (tgt := 34) (by decide +kernel : decode prog_10_method_24_code 30 = .ok (.goto 4, 3)) (by decide) ?_
        refine g_istore_n (L' := [some (.ref 0), some (.int (nI a)), some (.int (nI m)), some (.int (nI 1))]) (by decide +kernel : decode prog_10_method_24_code 34 = .ok (.istore_n 3, 1)) (Nat.le_of_ble_eq_true rfl) rfl ?_
        refine g_iload_n (by decide +kernel : decode prog_10_method_24_code 35 = .ok (.iload_n 3, 1)) rfl ?_
        refine g_if_eqN (tgt := 56) (by decide +kernel : decode prog_10_method_24_code 36 = .ok (.ifCond .eq 20, 3)) (by decide) (by decide) (fun h => False.elim (by revert h; decide)) (fun _ => ?_)
        refine g_aload_n (by decide +kernel : decode prog_10_method_24_code 39 = .ok (.aload_n 0, 1)) rfl ?_
        refine g_getI (by decide +kernel : decode prog_10_method_24_code 40 = .ok (.getfield 90, 3)) fl_Md_90.get rfl rfl ?_
        refine g_top (w := nI 0) (rfl) ?_
        refine g_if_neN (tgt := 56) (by decide +kernel : decode prog_10_method_24_code 43 = .ok (.ifCond .ne 13, 3)) (by decide) (by decide) (fun h => False.elim (by revert h; decide)) (fun _ => ?_)
        refine g_aload_n (by decide +kernel : decode prog_10_method_24_code 46 = .ok (.aload_n 0, 1)) rfl ?_
        refine g_getR (by decide +kernel : decode prog_10_method_24_code 47 = .ok (.getfield 7, 3)) fl_Md_7 rfl rfl ?_
        refine g_iload_n (by decide +kernel : decode prog_10_method_24_code 50 = .ok (.iload_n 1, 1)) rfl ?_
        refine g_aload_n (by decide +kernel : decode prog_10_method_24_code 51 = .ok (.aload_n 0, 1)) rfl ?_
        refine g_getI (by decide +kernel : decode prog_10_method_24_code 52 = .ok (.getfield 87, 3)) fl_Md_87.get rfl rfl ?_
        refine g_top (w := nI (vl (Bt σ) t q)) (rfl) ?_
        refine g_iastore (a := a) (by decide +kernel : decode prog_10_method_24_code 55 = .ok (.iastore, 1)) rfl rfl (by omega) (by decide) ?_
        refine g_sto (mS_u1 _ _ _ _ _) ?_
        refine g_aload_n (by decide +kernel : decode prog_10_method_24_code 56 = .ok (.aload_n 0, 1)) rfl ?_
        refine g_iload_n (by decide +kernel : decode prog_10_method_24_code 57 = .ok (.iload_n 3, 1)) rfl ?_
        obtain ⟨a58, e58, l58⟩ : ∃ z, nx (Bt σ) t q = z ∧ z ≤ t := ⟨_, rfl, (nx_b (by omega)).2.1⟩
        have j58 := en_b (B := Bt σ) l58
        have y58 := vl_b (B := Bt σ) (t := t) (q := a58)
        have k58 := kd_le (Bt σ) t a58
        refine g_callVV [.int (nI 1)] (by decide +kernel : decode prog_10_method_24_code 58 = .ok (.invokevirtual 111, 3)) lk_Md_111 (m_needs1 σ (upd f a (nI (vl (Bt σ) t q))) b hT (by omega) e58) rfl rfl rfl rfl (Nat.le_of_ble_eq_true rfl) (Nat.le_of_ble_eq_true rfl) (fun s58 h58 => ?_)
        obtain rfl := h58
        exact g_vret hR (by decide +kernel : decode prog_10_method_24_code 61 = .ok (.return_, 1)) rfl ⟨rfl, Or.inl ⟨⟨by omega, by omega, by omega⟩, by rw [e58]⟩⟩
