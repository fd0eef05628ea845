/-! THE REFERENCE: what its cells hold -/
def inB (x a b : Int) : Bool := decide (a ≤ x) && decide (x ≤ b)
theorem inB_iff {x a b : Int} : inB x a b = true ↔ a ≤ x ∧ x ≤ b := by simp [inB]
theorem inB_f {x a b : Int} : inB x a b = false ↔ (x < a ∨ b < x) := by
  rw [← Bool.not_eq_true, inB_iff]; omega
def isR (n : Nat) (x : Int) : Bool := decide (0 ≤ x) && decide (x < (n : Int))
theorem isR_iff {n : Nat} {x : Int} : isR n x = true ↔ 0 ≤ x ∧ x < (n : Int) := by simp [isR]
theorem isR_f {n : Nat} {x : Int} : isR n x = false ↔ (x < 0 ∨ (n : Int) ≤ x) := by
  rw [← Bool.not_eq_true, isR_iff]; omega
theorem isDy_no {d : Int} : isDy d = false ↔ (d < 0 ∨ 720 ≤ d) := by
  rw [← Bool.not_eq_true, isDy_iff]; omega
def MR (M : Nat → Int → Int) (x : Int) (q : Nat → Int) : Prop := M 4 x = q 0 ∧ M 5 x = q 1 ∧ M 6 x = q 5 ∧ M 7 x = q 2 ∧ M 8 x = q 3 ∧ M 9 x = q 4 ∧ M 10 x = q 8 ∧ M 11 x = q 9
def rqb (n : Nat) (rq : Nat → Nat) (i j : Int) : Bool := decide (i < (n : Int)) && decide (j < (n : Int)) && (rq i.toNat).testBit j.toNat
def MI (h : Int → Bool) (td : Int) (n : Nat) (q : Nat → Nat → Int) (rq : Nat → Nat) (M : Nat → Int → Int) : Prop :=
  CH h M ∧ (M 0 1 = td ∧ 0 ≤ td ∧ td < 720) ∧ (M 0 3 = (n : Int) ∧ n ≤ 8) ∧ (∀ x : Int, 0 ≤ x → x < (n : Int) → MR M x (q x.toNat) ∧ PV (q x.toNat)) ∧
  (∀ x : Int, (n : Int) ≤ x → x < 8 → M 10 x = 0 ∧ M 11 x = -1) ∧ ∀ i j : Int, 0 ≤ i → i < 8 → 0 ≤ j → j < 8 → M 12 (8 * i + j) = bI (rqb n rq i j)
def MK (h : Int → Bool) (n : Nat) (q : Nat → Nat → Int) (M : Nat → Int → Int) : Prop :=
  ∀ x : Int, 0 ≤ x → x < (n : Int) → (∀ d, 0 ≤ d → d < 720 → M 13 (720 * x + d) = bI (dueR h (q x.toNat) d)) ∧ M 15 x = ct (dueR h (q x.toNat)) 0 720 ∧ ∀ k, 0 ≤ k → k < ct (dueR h (q x.toNat)) 0 720 → M 14 (720 * x + k) = dk (dueR h (q x.toNat)) 0 k
theorem MI.same {h : Int → Bool} {td : Int} {n : Nat} {q : Nat → Nat → Int} {rq : Nat → Nat} {M M1 : Nat → Int → Int} (hm : MI h td n q rq M) (e : ∀ k, 2 ≤ k → k ≤ 12 → M1 k = M k) (e1 : M1 0 1 = M 0 1) (e3 : M1 0 3 = M 0 3) : MI h td n q rq M1 := by
  obtain ⟨c1, c2, c3, c4, c5, c6⟩ := hm
  refine ⟨c1.same (e 2 (by decide) (by decide)), by rw [e1]; exact c2, by rw [e3]; exact c3, fun x h0 h1 => ?_, fun x h0 h1 => ?_, fun i j i0 i1 j0 j1 => ?_⟩
  · unfold MR
    rw [e 4 (by decide) (by decide), e 5 (by decide) (by decide), e 6 (by decide) (by decide), e 7 (by decide) (by decide), e 8 (by decide) (by decide), e 9 (by decide) (by decide), e 10 (by decide) (by decide), e 11 (by decide) (by decide)]
    exact c4 x h0 h1
  · rw [e 10 (by decide) (by decide), e 11 (by decide) (by decide)]; exact c5 x h0 h1
  · rw [e 12 (by decide) (by decide)]; exact c6 i j i0 i1 j0 j1
theorem MI.t {h : Int → Bool} {td : Int} {n : Nat} {q : Nat → Nat → Int} {rq : Nat → Nat} {M : Nat → Int → Int} {v : Int} (hm : MI h td n q rq M) : MI h td n q rq (upM M 0 0 v) :=
  hm.same (fun k k2 _ => upM_off (by omega)) (upM_n (Or.inr (by decide))) (upM_n (Or.inr (by decide)))
theorem MK.t {h : Int → Bool} {n : Nat} {q : Nat → Nat → Int} {M : Nat → Int → Int} {v : Int} (hm : MK h n q M) : MK h n q (upM M 0 0 v) := by
  intro x h0 h1
  rw [upM_off (show (13 : Nat) ≠ 0 by decide), upM_off (show (14 : Nat) ≠ 0 by decide), upM_off (show (15 : Nat) ≠ 0 by decide)]
  exact hm x h0 h1
/-- what each rule needs: the least set that holds what it requires and what each in it requires -/
def Cls (n : Nat) (rq nd : Nat → Nat) : Prop :=
  ∀ i, i < n → (∀ j, (rq i).testBit j = true → j < n ∧ (nd i).testBit j = true) ∧ (∀ r j, (nd i).testBit r = true → (rq r).testBit j = true → (nd i).testBit j = true) ∧
    ∀ S : Nat → Prop, (∀ r j, r < n → S r → (rq r).testBit j = true → S j) → S i → ∀ j, (nd i).testBit j = true → S j
theorem Cls.lt {n : Nat} {rq nd : Nat → Nat} (hc : Cls n rq nd) {i j : Nat} (hi : i < n) (h : (nd i).testBit j = true) : j < n :=
  (hc i hi).2.2 (fun j => j < n) (fun r j hr _ hj => ((hc r hr).1 j hj).1) hi j h
theorem Cls.tr {n : Nat} {rq nd : Nat → Nat} (hc : Cls n rq nd) {i r j : Nat} (hi : i < n) (h : (nd i).testBit r = true) (h2 : (nd r).testBit j = true) : (nd i).testBit j = true :=
  (hc r (hc.lt hi h)).2.2 (fun j => (nd i).testBit j = true) (fun r2 j2 _ h3 h4 => (hc i hi).2.1 r2 j2 h3 h4) h j h2
theorem Cls.zero : Cls 0 (fun _ => 0) (fun _ => 0) := fun i hi => absurd hi (Nat.not_lt_zero i)
theorem Cls.add {n : Nat} {rq nd : Nat → Nat} (hc : Cls n rq nd) : Cls (n + 1) (mA rq n) (mA nd n) := by
  intro i hi
  by_cases c : i = n
  · have e : ∀ f : Nat → Nat, mA f n i = 0 := fun f => if_pos c
    rw [e, e]
    refine ⟨fun j hj => ?_, fun r j hr => ?_, fun S _ _ j hj => ?_⟩
    · rw [Nat.zero_testBit] at hj; cases hj
    · rw [Nat.zero_testBit] at hr; cases hr
    · rw [Nat.zero_testBit] at hj; cases hj
  · have e : ∀ (f : Nat → Nat) (r : Nat), r < n → mA f n r = f r := fun f r hr => if_neg (by omega)
    have hin : i < n := by omega
    rw [e rq i hin, e nd i hin]
    obtain ⟨c1, c2, c3⟩ := hc i hin
    refine ⟨fun j hj => ⟨by have := (c1 j hj).1; omega, (c1 j hj).2⟩, fun r j hr hj => ?_, fun S hS hi2 j hj => ?_⟩
    · rw [e rq r (hc.lt hin hr)] at hj
      exact c2 r j hr hj
    · exact c3 S (fun r j hr h1 h2 => hS r j (by omega) h1 (by rw [e rq r hr]; exact h2)) hi2 j hj
theorem tb_or1 {a x j : Nat} : (a ||| 2 ^ x).testBit j = true ↔ (a.testBit j = true ∨ x = j) := by
  rw [Nat.testBit_or, Nat.testBit_two_pow]; simp
theorem tb_or {a b j : Nat} : (a ||| b).testBit j = true ↔ (a.testBit j = true ∨ b.testBit j = true) := by
  rw [Nat.testBit_or]; simp
theorem Cls.req {n : Nat} {rq nd : Nat → Nat} (hc : Cls n rq nd) {x z : Nat} (hx : x < n) (hz : z < n) (hne : x ≠ z) (hcy : ¬ (nd z).testBit x = true) : Cls n (rqN rq x z) (ndN rq nd x z) := by
  by_cases h0 : (rq x).testBit z = true
  · rw [rqN_same h0, ndN, if_pos h0]; exact hc
  · rw [ndN, if_neg h0]
    have eq1 : ∀ r j, (rqN rq x z r).testBit j = true ↔ ((rq r).testBit j = true ∨ (r = x ∧ z = j)) := by
      intro r j
      unfold rqN
      split
      · rw [tb_or1]; rename_i e; simp [e]
      · rename_i e; simp [e]
    have en : ∀ i j, (ndW nd x (nd z ||| 2 ^ z) i).testBit j = true ↔ ((nd i).testBit j = true ∨ ((i = x ∨ (nd i).testBit x = true) ∧ ((nd z).testBit j = true ∨ z = j))) := by
      intro i j
      unfold ndW
      split
      · rename_i e; rw [tb_or, tb_or1]; simp only [e, true_and]
      · rename_i e; simp only [e, false_and, or_false]
    intro i hi
    obtain ⟨c1, c2, c3⟩ := hc i hi
    obtain ⟨z1, z2, z3⟩ := hc z hz
    refine ⟨fun j hj => ?_, fun r j hr hj => ?_, fun S hS hi2 j hj => ?_⟩
    · rw [en]
      rcases (eq1 i j).mp hj with g | ⟨g1, g2⟩
      · exact ⟨(c1 j g).1, Or.inl (c1 j g).2⟩
      · exact ⟨g2 ▸ hz, Or.inr ⟨Or.inl g1, Or.inr g2⟩⟩
    · rw [en] at hr ⊢
      rcases (eq1 r j).mp hj with g | ⟨g1, g2⟩
      · rcases hr with k | ⟨k1, k | k⟩
        · exact Or.inl (c2 r j k g)
        · exact Or.inr ⟨k1, Or.inl (z2 r j k g)⟩
        · exact Or.inr ⟨k1, Or.inl (z1 j (by rw [k]; exact g)).2⟩
      · subst g1
        rcases hr with k | ⟨k1, k | k⟩
        · exact Or.inr ⟨Or.inr k, Or.inr g2⟩
        · exact absurd k hcy
        · exact absurd k.symm hne
    · have hS2 : ∀ r j, r < n → S r → (rq r).testBit j = true → S j := fun r j hr h1 h2 => hS r j hr h1 ((eq1 r j).mpr (Or.inl h2))
      rcases (en i j).mp hj with g | ⟨g1, g2⟩
      · exact c3 S hS2 hi2 j g
      · have sx : S x := by
          rcases g1 with g1 | g1
          · exact g1 ▸ hi2
          · exact c3 S hS2 hi2 x g1
        have sz : S z := hS x z hx sx ((eq1 x z).mpr (Or.inr ⟨rfl, rfl⟩))
        rcases g2 with g2 | g2
        · exact z3 S hS2 sz j g2
        · exact g2 ▸ sz
