/-! THE MATHEMATICS of a park, on the reference's row of numbers -/
def tn (x : Int32) : Nat := x.toNatClampNeg
theorem tn_nI {a : Nat} (h : a < 2 ^ 31) : tn (nI a) = a := nI_clamp h
def Rng (x : Int32) (m : Nat) : Prop := ∃ k, k ≤ m ∧ x = nI k
theorem Rng.e {x : Int32} {m : Nat} (h : Rng x m) (hm : m < 2 ^ 31 := by decide) : x = nI (tn x) ∧ tn x ≤ m := by
  obtain ⟨k, h1, rfl⟩ := h
  rw [tn_nI (by omega)]
  exact ⟨rfl, h1⟩
theorem Rng.of {k m : Nat} (h : k ≤ m) : Rng (nI k) m := ⟨k, h, rfl⟩
theorem Rng.le {x : Int32} {m m' : Nat} (h : Rng x m) (hm : m ≤ m') : Rng x m' := by
  obtain ⟨k, h1, rfl⟩ := h
  exact ⟨k, by omega, rfl⟩
def mx (w : Nat) : Nat := match w with
  | 0 => 5
  | 1 => 99
  | 2 => 9
  | 3 => 11
  | 4 => 1
  | _ => 99
def lm (i : Nat) : Nat := match i with
  | 0 => 99
  | 1 => 9
  | 2 => 9
  | _ => 99
abbrev Row : Type := Nat → Int32
abbrev nn (f : Row) : Nat := tn (f 0)
/-- the row holds numbers as the document has them -/
def Inv (f : Row) : Prop := Rng (f 0) 8 ∧ (∀ o, o < nn f → ∀ w, w < 6 → Rng (f (19 + 6 * o + w)) (mx w)) ∧ (∀ i, i < 4 → Rng (f (3 + i)) (lm i)) ∧ (∀ p, p < 12 → Rng (f (7 + p)) 9)
theorem Inv.n {f : Row} (h : Inv f) : f 0 = nI (nn f) ∧ nn f ≤ 8 := h.1.e
theorem mx_lt (w : Nat) : mx w < 2 ^ 31 := by unfold mx; split <;> decide
theorem Inv.p {f : Row} (h : Inv f) {o : Nat} (ho : o < nn f) (w : Nat) (hw : w < 6 := by decide) : f (19 + 6 * o + w) = nI (tn (f (19 + 6 * o + w))) ∧ tn (f (19 + 6 * o + w)) ≤ mx w := (h.2.1 o ho w hw).e (mx_lt w)
theorem upd_s {f : Row} {k : Nat} {v : Int32} : upd f k v k = v := pk_us
theorem upd_n {f : Row} {k j : Nat} {v : Int32} (h : j ≠ k) : upd f k v j = f j := pk_un h
theorem upd_upd {f : Row} {k : Nat} {v w : Int32} : upd (upd f k v) k w = upd f k w := by
  funext j; unfold upd; split <;> simp_all
theorem upd_self {f : Row} {k : Nat} : upd f k (f k) = f := by
  funext j; unfold upd; split <;> simp_all
theorem upd_comm {f : Row} {i k : Nat} {v w : Int32} (h : i ≠ k) : upd (upd f i v) k w = upd (upd f k w) i v := by
  funext j; unfold upd
  by_cases h1 : j = k
  · subst h1; simp [Ne.symm h]
  · simp [h1]
theorem Inv.up {f : Row} (h : Inv f) {o w : Nat} {v : Int32} (hw : w < 6) (hv : Rng v (mx w)) : Inv (upd f (19 + 6 * o + w) v) := by
  have h0 : upd f (19 + 6 * o + w) v 0 = f 0 := upd_n (by omega)
  refine ⟨by rw [h0]; exact h.1, fun o' ho' w' hw' => ?_, fun i hi => by rw [upd_n (by omega)]; exact h.2.2.1 i hi, fun p hp => by rw [upd_n (by omega)]; exact h.2.2.2 p hp⟩
  have ho2 : o' < nn f := by
    have : nn (upd f (19 + 6 * o + w) v) = nn f := by show tn _ = tn _; rw [h0]
    omega
  by_cases e : 19 + 6 * o' + w' = 19 + 6 * o + w
  · have e1 : w' = w := by omega
    rw [e, upd_s, e1]; exact hv
  · rw [upd_n e]; exact h.2.1 o' ho2 w' hw'
theorem nn_up {f : Row} {k : Nat} {v : Int32} (h : k ≠ 0) : nn (upd f k v) = nn f := by show tn _ = tn _; rw [upd_n (Ne.symm h)]
theorem Inv.yr {f : Row} (h : Inv f) (v : Int32) : Inv (upd f 1 v) := by
  have h0 : upd f 1 v 0 = f 0 := upd_n (by decide)
  refine ⟨by rw [h0]; exact h.1, fun o' ho' w' hw' => ?_, fun i hi => by rw [upd_n (by omega)]; exact h.2.2.1 i hi, fun p hp => by rw [upd_n (by omega)]; exact h.2.2.2 p hp⟩
  rw [upd_n (by omega)]
  exact h.2.1 o' (by have := nn_up (f := f) (k := 1) (v := v) (by decide); omega) w' hw'
theorem Inv.z {f : Row} (h : Inv f) (v : Int32) : Inv (upd f 2 v) := by
  have h0 : upd f 2 v 0 = f 0 := upd_n (by decide)
  refine ⟨by rw [h0]; exact h.1, fun o' ho' w' hw' => ?_, fun i hi => by rw [upd_n (by omega)]; exact h.2.2.1 i hi, fun p hp => by rw [upd_n (by omega)]; exact h.2.2.2 p hp⟩
  rw [upd_n (by omega)]
  exact h.2.1 o' (by have := nn_up (f := f) (k := 2) (v := v) (by decide); omega) w' hw'
theorem Inv.law {f : Row} (h : Inv f) {i : Nat} {v : Int32} (hi : i < 4) (hv : Rng v (lm i)) : Inv (upd f (3 + i) v) := by
  have h0 : upd f (3 + i) v 0 = f 0 := upd_n (by omega)
  refine ⟨by rw [h0]; exact h.1, fun o' ho' w' hw' => ?_, fun j hj => ?_, fun p hp => by rw [upd_n (by omega)]; exact h.2.2.2 p hp⟩
  · rw [upd_n (by omega)]
    exact h.2.1 o' (by have := nn_up (f := f) (k := 3 + i) (v := v) (by omega); omega) w' hw'
  · by_cases e : j = i
    · subst e; rw [upd_s]; exact hv
    · rw [upd_n (by omega)]; exact h.2.2.1 j hj
theorem Inv.cov {f : Row} (h : Inv f) {p : Nat} {v : Int32} (hi : p < 12) (hv : Rng v 9) : Inv (upd f (7 + p) v) := by
  have h0 : upd f (7 + p) v 0 = f 0 := upd_n (by omega)
  refine ⟨by rw [h0]; exact h.1, fun o' ho' w' hw' => ?_, fun j hj => by rw [upd_n (by omega)]; exact h.2.2.1 j hj, fun j hp => ?_⟩
  · rw [upd_n (by omega)]
    exact h.2.1 o' (by have := nn_up (f := f) (k := 7 + p) (v := v) (by omega); omega) w' hw'
  · by_cases e : j = p
    · subst e; rw [upd_s]; exact hv
    · rw [upd_n (by omega)]; exact h.2.2.2 j hp
-- what one does
def hidesF (f : Row) (o : Nat) : Int32 :=
  let c := f (7 + tn (f (19 + 6 * o + 3))) + f (19 + 6 * o + 2)
  match tn (f (19 + 6 * o + 0)) with
  | 1 => c / nI 2
  | 2 => c - nI 3
  | 3 => c / nI 2 + nI 2
  | 4 => c - nI 3 + f (19 + 6 * o + 1) / nI 10
  | 5 => c + f 4
  | _ => c
def seesF (f : Row) (o : Nat) : Int32 :=
  let c := nI 3 + f (19 + 6 * o + 2)
  match tn (f (19 + 6 * o + 0)) with
  | 1 => c + f 5
  | 2 => c + nI 4
  | 3 => nI 2 * (c + f 5)
  | 4 => c + nI 4 - f 4
  | 5 => if f 1 - f 1 / nI 2 * nI 2 = 0 then c else nI 0
  | _ => c
def stridesF (f : Row) (o : Nat) : Int32 :=
  match tn (f (19 + 6 * o + 0)) with
  | 1 => nI 2
  | 2 => -1
  | 3 => nI 3
  | 4 => -2
  | 5 => nI 0
  | _ => nI 1
def lst (x y : Int32) : Int32 := if x < y then x else y
def grow1 (f : Row) (o : Nat) : Row :=
  let g := upd f (19 + 6 * o + 1) (lst (nI 99) (f (19 + 6 * o + 1) + nI 1))
  upd g (19 + 6 * o + 4) (if g (19 + 6 * o + 1) < g 3 then g (19 + 6 * o + 4) else nI 0)
def growN (f : Row) : Nat → Row
  | 0 => f
  | k + 1 => grow1 (growN f k) k
/-- those hidden, as a set -/
def msk (f : Row) : Nat → Nat
  | 0 => 0
  | k + 1 => msk f k + tn (f (19 + 6 * k + 4)) * 2 ^ k
def go1 (f : Row) (o : Nat) : Row :=
  let v := f (19 + 6 * o + 3) + stridesF f o + nI 12
  upd f (19 + 6 * o + 3) (v - v / nI 12 * nI 12)
def isQ (f : Row) (o q : Nat) : Prop := f (19 + 6 * q + 4) = nI 1 ∧ f (19 + 6 * q + 3) = f (19 + 6 * o + 3) ∧ hidesF f q < seesF f o
def findQ (f : Row) (o : Nat) : Nat → Nat → Option Nat
  | 0, _ => none
  | k + 1, q => if f (19 + 6 * q + 4) = nI 1 ∧ f (19 + 6 * q + 3) = f (19 + 6 * o + 3) ∧ hidesF f q < seesF f o then some q else findQ f o k (q + 1)
def fnd (f : Row) (o q : Nat) : Row :=
  let g := upd (upd f (19 + 6 * q + 4) (nI 0)) (19 + 6 * o + 4) (nI 1)
  upd g (19 + 6 * o + 5) (lst (nI 99) (g (19 + 6 * o + 5) + nI 1))
def seekF (f : Row) (o : Nat) : Option Nat → Row
  | none => f
  | some q => fnd f o q
def seekB (b : Row) (o : Nat) : Option Nat → Row
  | none => b
  | some q => upd b q (nI o)
def seekQ (f : Row) (o : Nat) (may : Bool) : Option Nat := if may then findQ (go1 f o) o (nn f) 0 else none
/-- the seekers in their order: h those hidden as the walk begins, m those who may find -/
def seekN (m h : Nat) (f b : Row) : Nat → Row × Row
  | 0 => (f, b)
  | k + 1 => let r := seekN m h f b k
    if h.testBit k then r else (seekF (go1 r.1 k) k (seekQ r.1 k (m.testBit k)), seekB r.2 k (seekQ r.1 k (m.testBit k)))
def rstB (b : Row) : Nat → Row
  | 0 => b
  | k + 1 => upd (rstB b k) k (-1)
/-- a year in which just those of m may find -/
def yr (m : Nat) (f b : Row) : Row × Row :=
  let n := nn f
  let g := growN f n
  let r := seekN m (msk g n) g (rstB b n) n
  (upd r.1 1 (r.1 1 + nI 1), r.2)
-- sizes
theorem lst_rng {x : Int32} (h : Rng x 99) : Rng (lst (nI 99) (x + nI 1)) 99 := by
  obtain ⟨k, hk, rfl⟩ := h
  rw [nI_add]
  unfold lst
  split
  · exact Rng.of (by decide)
  · rename_i h
    exact Rng.of (by have := mt (nI_ltI (a := 99) (b := k + 1) (by decide) (by omega)).mpr h; omega)
theorem grow1_0 (f : Row) (o : Nat) : nn (grow1 f o) = nn f := by
  unfold grow1; dsimp only; rw [nn_up (by omega), nn_up (by omega)]
theorem grow1_inv {f : Row} (h : Inv f) {o : Nat} (ho : o < nn f) : Inv (grow1 f o) := by
  unfold grow1
  dsimp only
  have h1 := h.up (o := o) (w := 1) (by decide) (lst_rng (h.2.1 o ho 1 (by decide)))
  refine h1.up (by decide) ?_
  split
  · exact h1.2.1 o (by rw [nn_up (by omega)]; exact ho) 4 (by decide)
  · exact Rng.of (by decide)
theorem growN_inv {f : Row} (h : Inv f) : ∀ k, k ≤ nn f → Inv (growN f k) ∧ nn (growN f k) = nn f := by
  intro k
  induction k with
  | zero => intro _; exact ⟨h, rfl⟩
  | succ k ih =>
    intro hk
    obtain ⟨h1, h2⟩ := ih (by omega)
    exact ⟨grow1_inv h1 (by omega), (grow1_0 _ _).trans h2⟩
theorem tmod12 : ∀ a : Fin 12, ∀ k : Fin 6, let s := (match k.val with
    | 1 => nI 2
    | 2 => (-1 : Int32)
    | 3 => nI 3
    | 4 => -2
    | 5 => nI 0
    | _ => nI 1)
    let v := nI a.val + s + nI 12
    ∃ b : Fin 12, v - v / nI 12 * nI 12 = nI b.val := by decide +kernel
theorem go1_rng {f : Row} (h : Inv f) {o : Nat} (ho : o < nn f) : Rng (let v := f (19 + 6 * o + 3) + stridesF f o + nI 12
    v - v / nI 12 * nI 12) 11 := by
  obtain ⟨e0, l0⟩ := h.p ho 0
  obtain ⟨e3, l3⟩ := h.p ho 3
  obtain ⟨b, hb⟩ := tmod12 ⟨tn (f (19 + 6 * o + 3)), by show _ < 12; have : mx 3 = 11 := rfl; omega⟩ ⟨tn (f (19 + 6 * o + 0)), by show _ < 6; have : mx 0 = 5 := rfl; omega⟩
  refine ⟨b.val, by have := b.isLt; omega, ?_⟩
  rw [← hb]
  rw [← e3]
  rfl
theorem go1_inv {f : Row} (h : Inv f) {o : Nat} (ho : o < nn f) : Inv (go1 f o) ∧ nn (go1 f o) = nn f := by
  unfold go1
  exact ⟨h.up (by decide) (go1_rng h ho), nn_up (by omega)⟩
theorem fnd_inv {f : Row} (h : Inv f) {o q : Nat} (ho : o < nn f) : Inv (fnd f o q) ∧ nn (fnd f o q) = nn f := by
  unfold fnd
  dsimp only
  have h1 := (h.up (o := q) (w := 4) (by decide) (Rng.of (k := 0) (by decide))).up (o := o) (w := 4) (v := nI 1) (by decide) (Rng.of (by decide))
  refine ⟨h1.up (by decide) (lst_rng (h1.2.1 o (by rw [nn_up (by omega), nn_up (by omega)]; exact ho) 5 (by decide))), ?_⟩
  rw [nn_up (by omega), nn_up (by omega), nn_up (by omega)]
theorem findQ_lt {f : Row} {o : Nat} : ∀ k q r, findQ f o k q = some r → q ≤ r ∧ r < q + k := by
  intro k
  induction k with
  | zero => intro q r h; cases h
  | succ k ih =>
    intro q r h
    unfold findQ at h
    split at h
    · cases h; omega
    · have := ih _ _ h; omega
theorem seekF_inv {f : Row} (h : Inv f) {o : Nat} (ho : o < nn f) (r : Option Nat) : Inv (seekF f o r) ∧ nn (seekF f o r) = nn f := by
  cases r with
  | none => exact ⟨h, rfl⟩
  | some q => exact fnd_inv h ho
theorem seekN_inv {m hh : Nat} {f b : Row} (h : Inv f) : ∀ k, k ≤ nn f → Inv (seekN m hh f b k).1 ∧ nn (seekN m hh f b k).1 = nn f := by
  intro k
  induction k with
  | zero => intro _; exact ⟨h, rfl⟩
  | succ k ih =>
    intro hk
    obtain ⟨h1, h2⟩ := ih (by omega)
    unfold seekN
    dsimp only
    split
    · exact ⟨h1, h2⟩
    · have g := go1_inv h1 (o := k) (by omega)
      have g2 := seekF_inv g.1 (o := k) (by omega) (seekQ (seekN m hh f b k).1 k (m.testBit k))
      exact ⟨g2.1, g2.2.trans (g.2.trans h2)⟩
theorem yr_inv {m : Nat} {f b : Row} (h : Inv f) : Inv (yr m f b).1 ∧ nn (yr m f b).1 = nn f := by
  unfold yr
  dsimp only
  have h1 := growN_inv h (nn f) (Nat.le_refl _)
  have h2 := seekN_inv (m := m) (hh := msk (growN f (nn f)) (nn f)) (b := rstB b (nn f)) h1.1 (nn f) (by omega)
  exact ⟨h2.1.yr _, by rw [nn_up (by decide)]; omega⟩
theorem msk_lt {f : Row} : ∀ k, (∀ o, o < k → tn (f (19 + 6 * o + 4)) ≤ 1) → msk f k < 2 ^ k := by
  intro k
  induction k with
  | zero => intro _; show 0 < 1; decide
  | succ k ih =>
    intro h
    have h1 := ih (fun o ho => h o (by omega))
    have h2 := h k (by omega)
    unfold msk
    have h3 : tn (f (19 + 6 * k + 4)) * 2 ^ k ≤ 1 * 2 ^ k := Nat.mul_le_mul_right _ h2
    rw [Nat.pow_succ]; omega
theorem Inv.msk {f : Row} (h : Inv f) {k : Nat} (hk : k ≤ nn f) : msk f k < 2 ^ k := msk_lt k (fun o ho => (h.p (o := o) (by omega) 4).2)
theorem msk_bit {f : Row} : ∀ k, (∀ o, o < k → tn (f (19 + 6 * o + 4)) ≤ 1) → ∀ i, (msk f k).testBit i = (decide (i < k) && decide (tn (f (19 + 6 * i + 4)) = 1)) := by
  intro k
  induction k with
  | zero => intro _ i; simp [msk]
  | succ k ih =>
    intro h i
    have h1 := ih (fun o ho => h o (by omega)) i
    have h2 := h k (by omega)
    have h3 := msk_lt k (fun o ho => h o (by omega))
    unfold msk
    by_cases e : tn (f (19 + 6 * k + 4)) = 1
    · have e9 : msk f k + 1 * 2 ^ k = 2 ^ k ||| msk f k := by
        have := Nat.two_pow_add_eq_or_of_lt h3 1
        rw [Nat.mul_one] at this
        omega
      rw [e, e9, Nat.testBit_or, h1, Nat.testBit_two_pow]
      by_cases hk : k = i
      · subst hk; simp [e]
      · have : (i < k + 1) = (i < k) := by simp; omega
        simp [hk, this]
    · have e0 : tn (f (19 + 6 * k + 4)) = 0 := by omega
      rw [e0, Nat.zero_mul, Nat.add_zero, h1]
      by_cases hk : k = i
      · subst hk; simp [e]
      · have : (i < k + 1) = (i < k) := by simp; omega
        simp [this]
theorem nI_shl1 : ∀ h : Fin 2, ∀ k : Fin 12, nI h.val <<< (nI k.val &&& 31) = nI (h.val * 2 ^ k.val) := by decide +kernel
theorem nI_or (a b : Nat) : nI a ||| nI b = nI (a ||| b) := by
  apply Int32.toBitVec_inj.mp
  show BitVec.ofNat 32 a ||| BitVec.ofNat 32 b = BitVec.ofNat 32 (a ||| b)
  exact (BitVec.ofNat_or).symm
theorem or_add {a h k : Nat} (ha : a < 2 ^ k) (hh : h ≤ 1) : a ||| h * 2 ^ k = a + h * 2 ^ k := by
  rcases (show h = 0 ∨ h = 1 by omega) with rfl | rfl
  · simp
  · rw [Nat.one_mul, Nat.add_comm, Nat.or_comm]
    have := Nat.two_pow_add_eq_or_of_lt ha 1
    simpa using this.symm
/-- bit k of a small set -/
theorem nI_bit {a k : Nat} (ha : a < 2 ^ 31) (hk : k < 31) : nI a >>> (nI k &&& 31) &&& nI 1 = nI (if a.testBit k then 1 else 0) := by
  have e1 : nI a >>> (nI k &&& 31) = nI (a / 2 ^ k) := pk_shrN ha _ k (by
    have : ∀ k : Fin 32, ((nI k.val &&& 31).toBitVec.smod 32).toNat = k.val := by decide +kernel
    exact this ⟨k, by omega⟩)
  rw [e1, nI_and]
  congr 1
  rw [Nat.and_one_is_mod, Nat.testBit_eq_decide_div_mod_eq]
  split
  · rename_i h; simpa using h
  · rename_i h
    have : a / 2 ^ k % 2 ≠ 1 := by simpa using h
    omega
