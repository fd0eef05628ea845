/-! SPEC: days, counts -/
theorem rb {a b : Bool} (h : a = b) : some (vi (bI a)) = some (vi (bI b)) := by rw [h]
theorem ri {a b : Int} (h : a = b) : some (vi a) = some (vi b) := by rw [h]
def isDy (d : Int) : Bool := decide (0 ≤ d) && decide (d < 720)
theorem isDy_t {d : Int} (h0 : 0 ≤ d) (h1 : d < 720) : isDy d = true := by simp [isDy, h0, h1]
theorem isDy_iff {d : Int} : isDy d = true ↔ 0 ≤ d ∧ d < 720 := by simp [isDy]
theorem isDy_f {d : Int} (h : d < 0 ∨ 720 ≤ d) : isDy d = false := by
  simp only [isDy, Bool.and_eq_false_iff, decide_eq_false_iff_not]
  omega
def wk (h : Int → Bool) (d : Int) : Bool := decide (d % 7 < 5) && !h d
def cnt (p : Int → Bool) (a : Int) : Nat → Int
  | 0 => 0
  | n + 1 => cnt p a n + bI (p (a + n))
def ct (p : Int → Bool) (a b : Int) : Int := cnt p a (b - a).toNat
theorem cnt_rng (p : Int → Bool) (a : Int) : ∀ n, 0 ≤ cnt p a n ∧ cnt p a n ≤ n
  | 0 => by simp [cnt]
  | n + 1 => by
    have h := cnt_rng p a n
    have h2 := bI_01 (p (a + n))
    simp only [cnt]
    omega
theorem ct_rng (p : Int → Bool) (a b : Int) (h : a ≤ b) : 0 ≤ ct p a b ∧ ct p a b ≤ b - a := by
  have := cnt_rng p a (b - a).toNat
  unfold ct
  omega
theorem ct_self (p : Int → Bool) (a : Int) : ct p a a = 0 := by simp [ct, cnt]
theorem ct_up {p : Int → Bool} {a b : Int} (h : a ≤ b) : ct p a (b + 1) = ct p a b + bI (p b) := by
  unfold ct
  rw [show (b + 1 - a).toNat = (b - a).toNat + 1 by omega]
  simp only [cnt]
  rw [show a + ((b - a).toNat : Int) = b by omega]
theorem ct_down {p : Int → Bool} {a : Int} : ∀ {b : Int}, a < b → ct p a b = bI (p a) + ct p (a + 1) b := by
  intro b h
  obtain ⟨n, hn⟩ : ∃ n : Nat, b = a + 1 + n := ⟨(b - (a + 1)).toNat, by omega⟩
  subst hn
  clear h
  induction n with
  | zero => rw [show a + 1 + ((0 : Nat) : Int) = a + 1 by omega, ct_up (Int.le_refl a), ct_self, ct_self]; omega
  | succ n ih =>
    rw [show a + 1 + ((n + 1 : Nat) : Int) = (a + 1 + n) + 1 by omega, ct_up (by omega), ih, ct_up (by omega)]
    omega
theorem ct_cong {p q : Int → Bool} {a b : Int} (h : ∀ d, a ≤ d → d < b → p d = q d) : ct p a b = ct q a b := by
  unfold ct
  have : ∀ n : Nat, (n : Int) ≤ b - a → cnt p a n = cnt q a n := by
    intro n
    induction n with
    | zero => intro _; rfl
    | succ n ih =>
      intro hn
      simp only [cnt]
      rw [ih (by omega), h (a + n) (by omega) (by omega)]
  by_cases hab : a ≤ b
  · exact this _ (by omega)
  · rw [show (b - a).toNat = 0 by omega]; rfl
theorem ct_split {p : Int → Bool} {a b c : Int} (h1 : a ≤ b) (h2 : b ≤ c) : ct p a c = ct p a b + ct p b c := by
  obtain ⟨n, hn⟩ : ∃ n : Nat, c = b + n := ⟨(c - b).toNat, by omega⟩
  subst hn
  clear h2
  induction n with
  | zero => rw [show b + ((0 : Nat) : Int) = b by omega, ct_self]; omega
  | succ n ih => rw [show b + ((n + 1 : Nat) : Int) = b + n + 1 by omega, ct_up (by omega), ct_up (by omega), ih]; omega
theorem ct_mono {p : Int → Bool} {a b c : Int} (h1 : a ≤ b) (h2 : b ≤ c) : ct p a b ≤ ct p a c := by
  rw [ct_split h1 h2]
  have := ct_rng p b c h2
  omega
/-- the numbers of the holidays in the cells -/
def CH (h : Int → Bool) (M : Nat → Int → Int) : Prop := ∀ d : Int, 0 ≤ d → d < 720 → M 2 d = bI (h d)
theorem wk_t {h : Int → Bool} {d : Int} (h1 : ¬ 5 ≤ d % 7) (h2 : h d = false) : true = wk h d := by
  simp only [wk, h2]
  simp
  omega
theorem wk_f1 {h : Int → Bool} {d : Int} (h1 : 5 ≤ d % 7) : false = wk h d := by
  simp only [wk]
  rw [decide_eq_false (by omega)]
  rfl
theorem wk_f2 {h : Int → Bool} {d : Int} (h2 : h d = true) : false = wk h d := by simp [wk, h2]
/-- the number of a working day in its month, from its start and from its end; 0 for a day off -/
def NS (h : Int → Bool) (d : Int) : Int := if wk h d = true then ct (wk h) (d - d % 30) (d + 1) else 0
def NE (h : Int → Bool) (d : Int) : Int := if wk h d = true then ct (wk h) d (d - d % 30 + 30) else 0
theorem fill_up {M1 : Nat → Int → Int} {F G : Int → Int} {k : Nat} {a d v : Int} (h : ∀ j, M1 k j = if a ≤ j ∧ j < d then F j else G j) (had : a ≤ d) (hv : v = F d) : ∀ j, upM M1 k d v k j = if a ≤ j ∧ j < d + 1 then F j else G j := by
  intro j
  by_cases hj : j = d
  · subst hj
    rw [upM_s, if_pos (by omega), hv]
  · rw [upM_n (Or.inr hj), h j]
    by_cases h1 : a ≤ j ∧ j < d
    · rw [if_pos h1, if_pos (by omega)]
    · rw [if_neg h1, if_neg (by omega)]
theorem fill_0 {f G : Int → Int} {F : Int → Int} {a : Int} (h : ∀ j, f j = G j) : ∀ j, f j = if a ≤ j ∧ j < a then F j else G j := fun j => by rw [if_neg (by omega), h j]
def CalI (h : Int → Bool) (M : Nat → Int → Int) : Prop := CH h M ∧ ∀ d : Int, 0 ≤ d → d < 720 → M 3 d = NS h d ∧ M 4 d = NE h d
theorem CH.same {h : Int → Bool} {M M1 : Nat → Int → Int} (hc : CH h M) (e : M1 2 = M 2) : CH h M1 := fun d h0 h1 => by rw [e]; exact hc d h0 h1
theorem CalI.same {h : Int → Bool} {M M1 : Nat → Int → Int} (hc : CalI h M) (e2 : M1 2 = M 2) (e3 : M1 3 = M 3) (e4 : M1 4 = M 4) : CalI h M1 := ⟨hc.1.same e2, fun d h0 h1 => by rw [e3, e4]; exact hc.2 d h0 h1⟩
