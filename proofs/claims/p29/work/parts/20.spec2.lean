/-! SPEC of the calls over all rules -/
def frB (B : Int) (p : Int → Bool) (a : Int) : Int := frF p (B - a).toNat a
theorem frB_end {B : Int} {p : Int → Bool} {a : Int} (h : B ≤ a) : frB B p a = -1 := by rw [frB, show (B - a).toNat = 0 by omega]; rfl
theorem frB_at {B : Int} {p : Int → Bool} {a : Int} (h : a < B) : frB B p a = if p a = true then a else frB B p (a + 1) := by
  rw [frB, show (B - a).toNat = (B - (a + 1)).toNat + 1 by omega]; rfl
def dkB (B : Int) (p : Int → Bool) (a k : Int) : Int := dkF p (B - a).toNat a k
theorem dkB_end {B : Int} {p : Int → Bool} {a k : Int} (h : B ≤ a) : dkB B p a k = -1 := by rw [dkB, show (B - a).toNat = 0 by omega]; rfl
theorem dkB_at {B : Int} {p : Int → Bool} {a k : Int} (h : a < B) : dkB B p a k = if p a = true then (if k = 0 then a else dkB B p (a + 1) (k - 1)) else dkB B p (a + 1) k := by
  rw [dkB, show (B - a).toNat = (B - (a + 1)).toNat + 1 by omega]; rfl
theorem dkB_skip {B : Int} {p : Int → Bool} {a b k : Int} (h : ∀ t, a ≤ t → t < b → p t = false) (hab : a ≤ b) (hb : b ≤ B) : dkB B p a k = dkB B p b k := by
  obtain ⟨j, hj⟩ : ∃ j : Nat, a = b - j := ⟨(b - a).toNat, by omega⟩
  subst hj
  clear hab
  induction j with
  | zero => rw [show b - ((0 : Nat) : Int) = b by omega]
  | succ j ih =>
    rw [dkB_at (by omega), h _ (by omega) (by omega), if_neg (by decide), show b - ((j + 1 : Nat) : Int) + 1 = b - j by omega]
    exact ih fun t h1 h2 => h t (by omega) h2
def sumN (f : Nat → Int) : Nat → Int
  | 0 => 0
  | i + 1 => sumN f i + f i
theorem sumN_rng {f : Nat → Int} {b : Int} (hb : 0 ≤ b) : ∀ {n : Nat}, (∀ i, i < n → 0 ≤ f i ∧ f i ≤ b) → 0 ≤ sumN f n ∧ sumN f n ≤ b * n
  | 0, _ => by simp [sumN]
  | n + 1, h => by
    have h1 := sumN_rng hb (n := n) fun i hi => h i (by omega)
    have h2 := h n (by omega)
    have e : b * ((n + 1 : Nat) : Int) = b * n + b := by rw [Int.natCast_add, Int.mul_add]; simp
    simp only [sumN]
    rw [e]
    omega
/-- the foreseen days: the open duties' -/
def fo (h : Int → Bool) (q : Nat → Nat → Int) (i : Nat) : Int := dk (dueR h (q i)) 0 (q i 8)
theorem fo_rng (h : Int → Bool) (q : Nat → Nat → Int) (i : Nat) : -1 ≤ fo h q i ∧ fo h q i < 720 := by
  have := dk_rng (p := dueR h (q i)) (a := 0) (k := q i 8)
  unfold fo
  omega
/-- the least rule that blocks -/
def lbP (rb : Nat) (f : Nat → Int) (fb : Int) (i : Int) : Bool := rb.testBit i.toNat && !decide (f i.toNat = -1) && decide (f i.toNat ≤ fb)
def lb (n rb : Nat) (f : Nat → Int) (fb : Int) : Int := frB n (lbP rb f fb) 0
theorem lb_rng {n rb : Nat} {f : Nat → Int} {fb : Int} : -1 ≤ lb n rb f fb ∧ lb n rb f fb < (n : Int) := by
  unfold lb
  have key : ∀ j : Nat, j ≤ n → -1 ≤ frB n (lbP rb f fb) ((n : Int) - j) ∧ frB n (lbP rb f fb) ((n : Int) - j) < (n : Int) := by
    intro j
    induction j with
    | zero => intro _; rw [frB_end (by omega)]; omega
    | succ j ih =>
      intro hj
      rw [frB_at (by omega)]
      split
      · omega
      · rw [show (n : Int) - ((j + 1 : Nat) : Int) + 1 = n - j by omega]
        exact ih (by omega)
  have := key n (Nat.le_refl _)
  rwa [Int.sub_self] at this
/-- the next in an order: the rule and the day found so far -/
def nioF (f : Nat → Int) (bl : Nat → Int) (x : Int) : Nat → Int × Int
  | 0 => (-1, x + 1)
  | i + 1 => if ¬ f i = -1 ∧ f i < (nioF f bl x i).2 ∧ bl i = -1 then ((i : Int), f i) else nioF f bl x i
def nxt (n : Nat) (rq : Nat → Nat) (x : Int) (f : Nat → Int) : Int := (nioF f (fun i => lb n (rq i) f (f i)) x n).1
theorem nioF_rng {f bl : Nat → Int} {x : Int} (hx : 0 ≤ x ∧ x < 720) : ∀ i : Nat, (∀ j, j < i → -1 ≤ f j ∧ f j < 720) → -1 ≤ (nioF f bl x i).1 ∧ (nioF f bl x i).1 < (i : Int) ∧ 0 ≤ (nioF f bl x i).2 ∧ (nioF f bl x i).2 ≤ x + 1
  | 0, _ => by simp only [nioF]; omega
  | i + 1, h => by
    have ih := nioF_rng (bl := bl) hx i fun j hj => h j (by omega)
    have hi := h i (by omega)
    simp only [nioF]
    split
    · refine ⟨?_, ?_, ?_, ?_⟩ <;> simp only <;> omega
    · omega
def adv (h : Int → Bool) (q : Nat → Nat → Int) (ch : Int) (f : Nat → Int) : Nat → Int := fun i => if i = ch.toNat then fst (dueR h (q i)) (f i + 1) else f i
def ordF (h : Int → Bool) (q : Nat → Nat → Int) (n : Nat) (rq : Nat → Nat) (x : Int) : Nat → (Nat → Int) → Int → Int
  | 0, _, _ => -1
  | k + 1, f, z => if nxt n rq x f = -1 then -1 else if z = 0 then nxt n rq x f else ordF h q n rq x k (adv h q (nxt n rq x f) f) (z - 1)
/-- efforts of a day; the heaviest day -/
def ef (h : Int → Bool) (q : Nat → Nat → Int) (d : Int) (i : Nat) : Int := if dueR h (q i) d = true then q i 3 else 0
def efs (h : Int → Bool) (q : Nat → Nat → Int) (n : Nat) (d : Int) : Int := sumN (ef h q d) n
def hvF (g : Int → Int) : Nat → Int → Int → Int
  | 0, b, _ => b
  | k + 1, b, d => hvF g k (if g b < g d then d else b) (d + 1)
def hv (g : Int → Int) (b d z : Int) : Int := hvF g (z + 1 - d).toNat b d
theorem hv_end {g : Int → Int} {b d z : Int} (h : z < d) : hv g b d z = b := by rw [hv, show (z + 1 - d).toNat = 0 by omega]; rfl
theorem hv_at {g : Int → Int} {b d z : Int} (h : d ≤ z) : hv g b d z = hv g (if g b < g d then d else b) (d + 1) z := by
  rw [hv, show (z + 1 - d).toNat = (z + 1 - (d + 1)).toNat + 1 by omega]; rfl
/-- days and rules in one row: 8 d + i -/
def U8 (h : Int → Bool) (q : Nat → Nat → Int) (n : Nat) (t : Int) : Bool := decide (t % 8 < (n : Int)) && dueR h (q (t % 8).toNat) (t / 8)
theorem U8_at {h : Int → Bool} {q : Nat → Nat → Int} {n r : Nat} {d : Int} (hr : r < n) (hn : n ≤ 8) : U8 h q n (8 * d + r) = dueR h (q r) d := by
  have e1 : (8 * d + (r : Int)) % 8 = r := by omega
  have e2 : (8 * d + (r : Int)) / 8 = d := by omega
  rw [U8, e1, e2, Int.toNat_natCast, decide_eq_true (by omega)]; rfl
theorem U8_off {h : Int → Bool} {q : Nat → Nat → Int} {n : Nat} {d t : Int} (h1 : 8 * d + n ≤ t) (h2 : t < 8 * (d + 1)) : U8 h q n t = false := by
  rw [U8, decide_eq_false (by omega)]; rfl
def late (h : Int → Bool) (q : Nat → Nat → Int) (td : Int) (i : Nat) : Int := if 0 < ct (dueR h (q i)) 0 td - q i 8 then ct (dueR h (q i)) 0 td - q i 8 else 0
/-- levelling: the last working day up to a day with room; the days' efforts and what doesn't fit -/
def ldF (w : Int → Bool) (L : Int → Int) (cap e x : Int) : Nat → Int → Int
  | 0, _ => -1
  | k + 1, d => if w d = true ∧ L d + e ≤ cap then d else ldF w L cap e x k (d - 1)
def ld (w : Int → Bool) (L : Int → Int) (cap e x d : Int) : Int := ldF w L cap e x (d + 1 - x).toNat d
theorem ld_end {w : Int → Bool} {L : Int → Int} {cap e x d : Int} (h : d < x) : ld w L cap e x d = -1 := by rw [ld, show (d + 1 - x).toNat = 0 by omega]; rfl
theorem ld_at {w : Int → Bool} {L : Int → Int} {cap e x d : Int} (h : x ≤ d) : ld w L cap e x d = if w d = true ∧ L d + e ≤ cap then d else ld w L cap e x (d - 1) := by
  rw [ld, show (d + 1 - x).toNat = (d - 1 + 1 - x).toNat + 1 by omega]; rfl
theorem ld_rng {w : Int → Bool} {L : Int → Int} {cap e x d : Int} (h0 : 0 ≤ x) : ld w L cap e x d = -1 ∨ (x ≤ ld w L cap e x d ∧ ld w L cap e x d ≤ d) := by
  by_cases hd : x ≤ d
  · obtain ⟨j, hj⟩ : ∃ j : Nat, d = x + j := ⟨(d - x).toNat, by omega⟩
    subst hj
    clear hd
    induction j with
    | zero =>
      rw [ld_at (by omega)]
      split
      · right; omega
      · left; exact ld_end (by omega)
    | succ j ih =>
      rw [ld_at (by omega)]
      split
      · right; omega
      · rw [show x + ((j + 1 : Nat) : Int) - 1 = x + j by omega]
        rcases ih with h | h
        · exact Or.inl h
        · right; omega
  · exact Or.inl (ld_end (by omega))
/-- a duty of e hours due on day d is laid -/
def lay1 (w : Int → Bool) (cap x d e : Int) (s : (Int → Int) × Int) : (Int → Int) × Int :=
  if ld w s.1 cap e x d = -1 then (s.1, s.2 + e) else (fun j => if j = ld w s.1 cap e x d then s.1 j + e else s.1 j, s.2)
def layF (h : Int → Bool) (q : Nat → Nat → Int) (n : Nat) (cap x : Int) : Nat → Int → (Int → Int) × Int → (Int → Int) × Int
  | 0, _, s => s
  | k + 1, t, s => layF h q n cap x k (t + 1) (if U8 h q n t = true then lay1 (wk h) cap x (t / 8) (q (t % 8).toNat 3) s else s)
def lay (h : Int → Bool) (q : Nat → Nat → Int) (n : Nat) (cap x B t : Int) (s : (Int → Int) × Int) : (Int → Int) × Int := layF h q n cap x (B - t).toNat t s
theorem lay_end {h : Int → Bool} {q : Nat → Nat → Int} {n : Nat} {cap x B t : Int} {s : (Int → Int) × Int} (ht : B ≤ t) : lay h q n cap x B t s = s := by rw [lay, show (B - t).toNat = 0 by omega]; rfl
theorem lay_at {h : Int → Bool} {q : Nat → Nat → Int} {n : Nat} {cap x B t : Int} {s : (Int → Int) × Int} (ht : t < B) : lay h q n cap x B t s = lay h q n cap x B (t + 1) (if U8 h q n t = true then lay1 (wk h) cap x (t / 8) (q (t % 8).toNat 3) s else s) := by
  rw [lay, show (B - t).toNat = (B - (t + 1)).toNat + 1 by omega]; rfl
theorem lay_skip {h : Int → Bool} {q : Nat → Nat → Int} {n : Nat} {cap x B a b : Int} {s : (Int → Int) × Int} (hu : ∀ t, a ≤ t → t < b → U8 h q n t = false) (hab : a ≤ b) (hb : b ≤ B) : lay h q n cap x B a s = lay h q n cap x B b s := by
  obtain ⟨j, hj⟩ : ∃ j : Nat, a = b - j := ⟨(b - a).toNat, by omega⟩
  subst hj
  clear hab
  induction j with
  | zero => rw [show b - ((0 : Nat) : Int) = b by omega]
  | succ j ih =>
    rw [lay_at (by omega), hu _ (by omega) (by omega), if_neg (by decide), show b - ((j + 1 : Nat) : Int) + 1 = b - j by omega]
    exact ih fun t h1 h2 => hu t (by omega) h2
