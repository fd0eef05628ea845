/-! what the law's checks say, of the values alone -/
theorem frB_none {B : Int} {p : Int → Bool} {a : Int} (h : ∀ t, a ≤ t → t < B → p t = false) : frB B p a = -1 := by
  by_cases hab : a ≤ B
  · obtain ⟨j, hj⟩ : ∃ j : Nat, a = B - j := ⟨(B - a).toNat, by omega⟩
    subst hj
    clear hab
    induction j with
    | zero => exact frB_end (by omega)
    | succ j ih =>
      rw [frB_at (by omega), h _ (by omega) (by omega), if_neg (by decide), show B - ((j + 1 : Nat) : Int) + 1 = B - j by omega]
      exact ih fun t h1 h2 => h t (by omega) h2
  · exact frB_end (by omega)
theorem dk_ok {p : Int → Bool} {a k : Int} (h0 : 0 ≤ k) (h : k < ct p a 720) : a ≤ dk p a k ∧ dk p a k < 720 ∧ p (dk p a k) = true ∧ ct p a (dk p a k) = k := by
  by_cases ha : a < 720
  · obtain ⟨j, hj⟩ : ∃ j : Nat, a = 720 - j := ⟨(720 - a).toNat, by omega⟩
    subst hj
    clear ha
    induction j generalizing k with
    | zero => rw [show (720 : Int) - ((0 : Nat) : Int) = 720 by omega, ct_self] at h; omega
    | succ j ih =>
      rw [ct_down (by omega), show (720 : Int) - ((j + 1 : Nat) : Int) + 1 = 720 - j by omega] at h
      rw [dk_at (by omega), show (720 : Int) - ((j + 1 : Nat) : Int) + 1 = 720 - j by omega]
      by_cases hp : p (720 - ((j + 1 : Nat) : Int)) = true
      · rw [if_pos hp]
        have e1 : bI (p (720 - ((j + 1 : Nat) : Int))) = 1 := by rw [hp]; rfl
        by_cases k0 : k = 0
        · rw [if_pos k0]
          exact ⟨by omega, by omega, hp, by rw [ct_self, k0]⟩
        · rw [if_neg k0]
          obtain ⟨g1, g2, g3, g4⟩ := ih (k := k - 1) (by omega) (by omega)
          refine ⟨by omega, g2, g3, ?_⟩
          rw [ct_down (by omega), show (720 : Int) - ((j + 1 : Nat) : Int) + 1 = 720 - j by omega, g4]
          omega
      · rw [if_neg hp]
        have e1 : bI (p (720 - ((j + 1 : Nat) : Int))) = 0 := bI_0.mpr (by simpa using hp)
        obtain ⟨g1, g2, g3, g4⟩ := ih (k := k) h0 (by omega)
        refine ⟨by omega, g2, g3, ?_⟩
        rw [ct_down (by omega), show (720 : Int) - ((j + 1 : Nat) : Int) + 1 = 720 - j by omega, g4]
        omega
  · unfold ct at h
    rw [show (720 - a).toNat = 0 by omega] at h
    simp only [cnt] at h
    omega
theorem dk_none {p : Int → Bool} {a k : Int} (h0 : 0 ≤ a) (hk : 0 ≤ k) (h : ct p a 720 ≤ k) : dk p a k = -1 := by
  by_cases g : dk p a k = -1
  · exact g
  · have := dk_lt g h0 hk
    omega
theorem dk_mono {p : Int → Bool} {a j k : Int} (h0 : 0 ≤ j) (h1 : j < k) (h2 : k < ct p a 720) : dk p a j < dk p a k := by
  obtain ⟨a1, -, -, a4⟩ := dk_ok (p := p) (a := a) h0 (by omega)
  obtain ⟨b1, -, -, b4⟩ := dk_ok (p := p) (a := a) (k := k) (by omega) h2
  by_cases g : dk p a j < dk p a k
  · exact g
  · have := ct_mono (p := p) b1 (show dk p a k ≤ dk p a j by omega)
    omega
theorem dueR_wk {h : Int → Bool} {q : Nat → Int} {d : Int} (e : dueR h q d = true) : wk h d = true := by
  unfold dueR due at e
  exact (Bool.and_eq_true_iff.mp e).1
theorem nioF_spec (f bl : Nat → Int) (x : Int) : ∀ i : Nat, ((nioF f bl x i).1 = -1 ∧ (nioF f bl x i).2 = x + 1 ∧ ∀ j, j < i → ¬ (¬ f j = -1 ∧ f j < x + 1 ∧ bl j = -1)) ∨ ∃ r, r < i ∧ (nioF f bl x i).1 = (r : Int) ∧ (nioF f bl x i).2 = f r ∧ ¬ f r = -1 ∧ f r < x + 1 ∧ bl r = -1
  | 0 => Or.inl ⟨rfl, rfl, fun j hj => absurd hj (Nat.not_lt_zero j)⟩
  | i + 1 => by
    have ih := nioF_spec f bl x i
    simp only [nioF]
    split
    · rename_i c
      refine Or.inr ⟨i, by omega, rfl, rfl, c.1, ?_, c.2.2⟩
      rcases ih with ⟨-, e, -⟩ | ⟨r, -, -, e, -, g, -⟩ <;> omega
    · rename_i c
      rcases ih with ⟨e1, e2, e3⟩ | ⟨r, g1, g2, g3, g4⟩
      · refine Or.inl ⟨e1, e2, fun j hj => ?_⟩
        by_cases hji : j = i
        · subst hji
          rw [e2] at c
          exact c
        · exact e3 j (by omega)
      · exact Or.inr ⟨r, by omega, g2, g3, g4⟩
theorem nxt_spec (n : Nat) (rq : Nat → Nat) (x : Int) (f : Nat → Int) : (nxt n rq x f = -1 ∧ ∀ j, j < n → ¬ (¬ f j = -1 ∧ f j < x + 1 ∧ lb n (rq j) f (f j) = -1)) ∨ ∃ r, r < n ∧ nxt n rq x f = (r : Int) ∧ ¬ f r = -1 ∧ f r < x + 1 ∧ lb n (rq r) f (f r) = -1 := by
  rcases nioF_spec f (fun i => lb n (rq i) f (f i)) x n with ⟨e1, -, e3⟩ | ⟨r, g1, g2, -, g4⟩
  · exact Or.inl ⟨e1, e3⟩
  · exact Or.inr ⟨r, g1, g2, g4⟩
/-- rules require rules before them alone -/
def LA (n : Nat) (rq nd : Nat → Nat) : Prop := ∀ i, i < n → ∀ j, ((rq i).testBit j = true → j < i) ∧ ((nd i).testBit j = true → j < i)
theorem LA.zero : LA 0 (fun _ => 0) (fun _ => 0) := fun i hi => absurd hi (Nat.not_lt_zero i)
theorem LA.add {n : Nat} {rq nd : Nat → Nat} (h : LA n rq nd) : LA (n + 1) (mA rq n) (mA nd n) := by
  intro i hi j
  by_cases c : i = n
  · have e : ∀ f : Nat → Nat, mA f n i = 0 := fun f => if_pos c
    rw [e, e, Nat.zero_testBit]
    exact ⟨fun g => (by cases g), fun g => (by cases g)⟩
  · have e : ∀ f : Nat → Nat, mA f n i = f i := fun f => if_neg c
    rw [e, e]
    exact h i (by omega) j
theorem tb_or {a b j : Nat} : (a ||| b).testBit j = true ↔ (a.testBit j = true ∨ b.testBit j = true) := by
  rw [Nat.testBit_or]; simp
theorem tb_or1 {a x j : Nat} : (a ||| 2 ^ x).testBit j = true ↔ (a.testBit j = true ∨ x = j) := by
  rw [Nat.testBit_or, Nat.testBit_two_pow]; simp
theorem LA.req {n : Nat} {rq nd : Nat → Nat} (h : LA n rq nd) {x z : Nat} (hx : x < n) (hz : z < x) : LA n (rqN rq x z) (ndN rq nd x z) := by
  intro i hi j
  refine ⟨fun g => ?_, fun g => ?_⟩
  · unfold rqN at g
    split at g
    · rename_i e
      rcases tb_or1.mp g with g | g
      · exact (h i hi j).1 g
      · omega
    · exact (h i hi j).1 g
  · unfold ndN at g
    split at g
    · exact (h i hi j).2 g
    · unfold ndW at g
      split at g
      · rename_i e
        have hxi : x ≤ i := by
          rcases e with e | e
          · omega
          · have := (h i hi x).2 e; omega
        rcases tb_or.mp g with g | g
        · exact (h i hi j).2 g
        · rcases tb_or1.mp g with g | g
          · have := (h z (by omega) j).2 g; omega
          · omega
      · exact (h i hi j).2 g
theorem LA.kreq {n : Nat} {rq nd : Nat → Nat} (h : LA n rq nd) {x z : Int} (hx : x < (n : Int)) (hz : z < x) (z0 : 0 ≤ z) : kReq n nd x z = 0 := by
  rw [kReq, if_pos (by omega), if_neg]
  rintro (e | e)
  · omega
  · have := (h z.toNat (by omega) x.toNat).2 e
    omega
theorem LA.req9 {n : Nat} {rq nd : Nat → Nat} (h : LA n rq nd) {x z : Int} (hx : x < (n : Int)) (hz : z < x) (z0 : 0 ≤ z) : LA n (rqN rq x.toNat z.toNat) (ndN rq nd x.toNat z.toNat) := h.req (by omega) (by omega)
theorem rqN_has {rq : Nat → Nat} {x z : Nat} : (rqN rq x z x).testBit z = true := by
  unfold rqN
  rw [if_pos rfl]
  exact tb_or1.mpr (Or.inr rfl)
/-- where nothing comes next, nothing is open up to the day -/
theorem nxt_none {n : Nat} {rq nd : Nat → Nat} {x : Int} {f : Nat → Int} (ha : LA n rq nd) (hz : nxt n rq x f = -1) : ∀ i, i < n → f i = -1 ∨ x < f i := by
  have key := nxt_spec n rq x f
  rw [hz] at key
  have k2 : ∀ j, j < n → ¬ (¬ f j = -1 ∧ f j < x + 1 ∧ lb n (rq j) f (f j) = -1) := by
    rcases key with ⟨-, k⟩ | ⟨r, -, e, -⟩
    · exact k
    · omega
  intro i
  induction i using Nat.strongRecOn with
  | _ i ih =>
    intro hi
    by_cases c1 : f i = -1
    · exact Or.inl c1
    by_cases c2 : x < f i
    · exact Or.inr c2
    refine absurd ⟨c1, by omega, ?_⟩ (k2 i hi)
    unfold lb
    refine frB_none fun t t0 t1 => ?_
    by_cases tb : (rq i).testBit t.toNat = true
    · have tl := (ha i hi t.toNat).1 tb
      unfold lbP
      rcases ih t.toNat tl (by omega) with g | g
      · rw [decide_eq_true g]; simp
      · rw [decide_eq_false (p := f t.toNat ≤ f i) (by omega)]; simp
    · unfold lbP
      rw [Bool.not_eq_true] at tb
      rw [tb]; simp
theorem ordF_0 {h : Int → Bool} {q : Nat → Nat → Int} {n : Nat} {rq : Nat → Nat} {x : Int} {g : Nat → Int} : ordF h q n rq x 5760 g 0 = nxt n rq x g := by
  rw [ordF, if_pos rfl]
  split
  · rename_i e; exact e.symm
  · rfl
/-- how many duties are finished, together -/
def SF (q : Nat → Nat → Int) (n : Nat) : Int := sumN (fun i => q i 8) n
theorem sumN_cong {f g : Nat → Int} : ∀ {n : Nat}, (∀ i, i < n → f i = g i) → sumN f n = sumN g n
  | 0, _ => rfl
  | n + 1, h => by
    simp only [sumN]
    rw [sumN_cong (n := n) fun i hi => h i (by omega), h n (by omega)]
theorem SF.zero {q : Nat → Nat → Int} : SF q 0 = 0 := rfl
theorem SF.up {q : Nat → Nat → Int} {n : Nat} : SF q (n + 1) = SF q n + q n 8 := rfl
theorem SF.fin {q : Nat → Nat → Int} {td : Int} {r : Nat} : ∀ {n : Nat}, r < n → SF (qfin q r td) n = SF q n + 1
  | 0, h => absurd h (Nat.not_lt_zero r)
  | n + 1, h => by
    rw [SF.up, SF.up]
    by_cases c : r = n
    · subst c
      have e : SF (qfin q r td) r = SF q r := sumN_cong fun i hi => by rw [qfin_n (by omega)]
      rw [e]
      simp only [qfin, if_true]
      omega
    · rw [SF.fin (n := n) (by omega), qfin_n (Ne.symm c)]
      omega
theorem SF.add {q : Nat → Nat → Int} {n : Nat} {kd nn fs ef va sh : Int} : SF (qA q n (pN kd nn fs ef va sh)) (n + 1) = SF q n := by
  rw [SF.up]
  have e : SF (qA q n (pN kd nn fs ef va sh)) n = SF q n := sumN_cong fun i hi => by simp only [qA]; rw [if_neg (by omega)]
  have e2 : qA q n (pN kd nn fs ef va sh) n 8 = 0 := by simp only [qA, if_true]; rfl
  rw [e, e2]
  omega
theorem SF.shift {q : Nat → Nat → Int} {n r : Nat} {z : Int} : SF (qsh q r z) n = SF q n := sumN_cong fun i hi => by simp only [qsh]; rw [if_neg (by omega)]
theorem SF.rng {h : Int → Bool} {td : Int} {n : Nat} {q : Nat → Nat → Int} {rq nd : Nat → Nat} {M : Nat → Int → Int} (hc : CI h td n q rq nd M) {m : Nat} (hm : m ≤ n) : 0 ≤ SF q m ∧ SF q m ≤ 5760 := by
  obtain ⟨-, -, hn, hR⟩ := hc
  have := sumN_rng (f := fun i => q i 8) (b := 720) (by decide) (n := m) fun i hi => (hR i (by omega)).2.1.2.2.2.2.2.2.2.2.1
  unfold SF
  omega
/-- the outcomes of calls that are made with what they want -/
theorem kAdd_0 {n : Nat} {kd nn sh fs ef va : Int} (hn : n < 8) (h1 : 0 ≤ kd ∧ kd ≤ 3) (h2 : kd = 0 → 1 ≤ nn ∧ nn ≤ 60) (h3 : kd = 1 → 0 ≤ nn ∧ nn ≤ 29) (h4 : 2 ≤ kd → 1 ≤ nn ∧ nn ≤ 22) (h5 : 0 ≤ sh ∧ sh ≤ 2) (h6 : 0 ≤ fs ∧ fs < 720) (h7 : 1 ≤ ef ∧ ef ≤ 9) (h8 : 0 ≤ va ∧ va ≤ 99) : kAdd n kd nn sh fs ef va = 0 := by
  rw [kAdd, if_pos (isDy_t h6.1 h6.2), if_pos ⟨⟨h1, h2, h3, h4⟩, h5, h7, h8⟩, if_pos hn]
theorem kShift_0 {n : Nat} {x z : Int} (h : 0 ≤ x ∧ x < (n : Int)) (hz : 0 ≤ z ∧ z ≤ 2) : kShift n x z = 0 := by rw [kShift, if_pos h, if_pos hz]
theorem kPass_0 {td x : Int} (h1 : 1 ≤ x ∧ x ≤ 100) (h2 : td + x < 720) : kPass td x = 0 := by rw [kPass, if_pos h1, if_neg (by omega)]
theorem kRule_0i {n : Nat} {x : Int} (h : 0 ≤ x ∧ x < (n : Int)) : kRule n x = 0 := by rw [kRule, if_pos h]
theorem kRD_0i {n : Nat} {x z : Int} (h : 0 ≤ x ∧ x < (n : Int)) (h0 : 0 ≤ z) (h1 : z < 720) : kRD n x z = 0 := by rw [kRD, if_pos ⟨h, isDy_t h0 h1⟩]
theorem kRP_0i {n : Nat} {x z : Int} (h : 0 ≤ x ∧ x < (n : Int)) (h0 : 0 ≤ z) : kRP n x z = 0 := by rw [kRP, if_pos ⟨h, h0⟩]
theorem kFin_0 {h : Int → Bool} {n : Nat} {q : Nat → Nat → Int} {rq : Nat → Nat} {r : Nat} (hr : r < n) (h1 : ¬ fo h q r = -1) (h2 : lb n (rq r) (fo h q) (fo h q r) = -1) : kFin h n q rq (r : Int) = 0 := by
  rw [kFin, if_pos (by omega), Int.toNat_natCast, if_neg h1, if_pos h2]
theorem kLasts_0 {n : Nat} {q : Nat → Nat → Int} {x : Int} (h : 0 ≤ x ∧ x < (n : Int)) (hq : ¬ q x.toNat 9 = -1) : kLasts n q x = 0 := by rw [kLasts, if_pos h, if_neg hq]
theorem covd_t {q : Nat → Int} {td : Int} (h : q 9 = td) (h0 : 0 ≤ td) (h4 : 0 ≤ q 4) : covd q td = true := by
  unfold covd
  rw [decide_eq_false (p := q 9 = -1) (by omega), decide_eq_true (p := q 9 ≤ td) (by omega), decide_eq_true (by omega)]
  rfl
theorem qfin_9 {q : Nat → Nat → Int} {r : Nat} {td : Int} : qfin q r td r 9 = td := by simp [qfin]
/-- the numbers that the law draws out of a script -/
def lowF (v n : Int) : Int := (zI v &&& (2147483647 : Int32)).toInt % n
theorem and_nn (x : Int32) : 0 ≤ (x &&& (2147483647 : Int32)).toInt := by
  rw [← Int32.toInt_toBitVec, Int32.toBitVec_and]
  have h : (x.toBitVec &&& (2147483647 : Int32).toBitVec).msb = false := by
    rw [BitVec.msb_and]
    have : ((2147483647 : Int32).toBitVec).msb = false := by decide
    rw [this, Bool.and_false]
  exact BitVec.toInt_nonneg_of_msb_false h
theorem lowF_rng {v n : Int} (hn : 0 < n) : 0 ≤ lowF v n ∧ lowF v n < n := ⟨Int.emod_nonneg _ (by omega), Int.emod_lt_of_pos _ hn⟩
def shrF (v k : Int) : Int := (zI v >>> (zI k &&& 31)).toInt
theorem shrF_in (v k : Int) : inR (shrF v k) := zI_inR _
theorem shrF_eq (v k : Int) : zI v >>> (zI k &&& 31) = zI (shrF v k) := (zI_of _).symm
