/-! the reference's marks: nominal days, days moved, rows -/
theorem dk_0 {p : Int → Bool} : ∀ {x : Int}, dk p x 0 = fst p x := by
  have key : ∀ (k : Nat) (x : Int), 720 - x ≤ k → dk p x 0 = fst p x := by
    intro k
    induction k with
    | zero => intro x hx; rw [dk_end (by omega), fst_end (by omega)]
    | succ k ih =>
      intro x hx
      by_cases c : x < 720
      · rw [dk_at c, fst_at c, ih (x + 1) (by omega)]
        simp
      · rw [dk_end (by omega), fst_end (by omega)]
  intro x
  exact key (720 - x).toNat x (by omega)
theorem dk_ct {p : Int → Bool} {a x : Int} (h : a ≤ x) (hx : x ≤ 720) : dk p a (ct p a x) = fst p x := by
  obtain ⟨j, hj⟩ : ∃ j : Nat, a = x - j := ⟨(x - a).toNat, by omega⟩
  subst hj
  clear h
  induction j with
  | zero => rw [show x - ((0 : Nat) : Int) = x by omega, ct_self, dk_0]
  | succ j ih =>
    rw [dk_at (by omega), ct_down (by omega), show x - ((j + 1 : Nat) : Int) + 1 = x - j by omega]
    have hr := ct_rng p (x - j) x (by omega)
    cases hp : p (x - ((j + 1 : Nat) : Int)) with
    | true => rw [if_pos rfl, if_neg (by simp [bI]; omega), show bI true + ct p (x - j) x - 1 = ct p (x - j) x by simp [bI]; omega]; exact ih
    | false => rw [if_neg (by decide), show bI false + ct p (x - j) x = ct p (x - j) x by simp [bI]]; exact ih
theorem fst_hit {p : Int → Bool} {x : Int} (h : x < 720) (hp : p x = true) : fst p x = x := by rw [fst_at h, if_pos hp]
theorem ct_dk {p : Int → Bool} : ∀ (j : Nat) {a k : Int}, 720 - a ≤ j → 0 ≤ k → 0 ≤ a → (dk p a k = -1 → ct p a 720 ≤ k) ∧ (¬ dk p a k = -1 → ct p a (dk p a k) = k ∧ k < ct p a 720)
  | 0, a, k, h, hk, a0 => by
    rw [dk_end (by omega)]
    refine ⟨fun _ => ?_, fun g => absurd rfl g⟩
    rw [ct, show (720 - a).toNat = 0 by omega]
    exact hk
  | j + 1, a, k, h, hk, a0 => by
    by_cases c : a < 720
    · rw [dk_at c, ct_down c]
      have hr := ct_rng p (a + 1) 720 (by omega)
      cases hp : p a with
      | true =>
        rw [if_pos rfl, show bI true = 1 from rfl]
        by_cases k0 : k = 0
        · rw [if_pos k0]
          exact ⟨fun g => by omega, fun _ => ⟨by rw [ct_self, k0], by omega⟩⟩
        · rw [if_neg k0]
          have ih := ct_dk (p := p) j (a := a + 1) (k := k - 1) (by omega) (by omega) (by omega)
          refine ⟨fun g => by have := ih.1 g; omega, fun g => ?_⟩
          have := ih.2 g
          have hr2 := dk_rng (p := p) (a := a + 1) (k := k - 1)
          rw [ct_down (by omega), hp, show bI true = 1 from rfl]
          omega
      | false =>
        rw [if_neg (by decide), show bI false = 0 from rfl]
        have ih := ct_dk (p := p) j (a := a + 1) (k := k) (by omega) hk (by omega)
        refine ⟨fun g => by have := ih.1 g; omega, fun g => ?_⟩
        have := ih.2 g
        have hr2 := dk_rng (p := p) (a := a + 1) (k := k)
        rw [ct_down (by omega), hp, show bI false = 0 from rfl]
        omega
    · rw [dk_end (by omega)]
      refine ⟨fun _ => ?_, fun g => absurd rfl g⟩
      rw [ct, show (720 - a).toNat = 0 by omega]
      exact hk
theorem dk_no {p : Int → Bool} {k : Int} (hk : 0 ≤ k) (h : ct p 0 720 ≤ k) : dk p 0 k = -1 := by
  by_cases g : dk p 0 k = -1
  · exact g
  · have := ((ct_dk (p := p) 720 (a := 0) (k := k) (by omega) hk (by decide)).2 g).2; omega
theorem dk_yes {p : Int → Bool} {k : Int} (hk : 0 ≤ k) (h : k < ct p 0 720) : 0 ≤ dk p 0 k ∧ dk p 0 k < 720 ∧ ct p 0 (dk p 0 k) = k ∧ p (dk p 0 k) = true := by
  have c := ct_dk (p := p) 720 (a := 0) (k := k) (by omega) hk (by decide)
  have g : ¬ dk p 0 k = -1 := fun g => by have := c.1 g; omega
  have r := dk_rng (p := p) (a := 0) (k := k)
  have := c.2 g
  rcases r with r | r
  · exact absurd r g
  · exact ⟨r.1, r.2.1, this.1, r.2.2⟩
theorem dk_bef {p : Int → Bool} {k e : Int} (hk : 0 ≤ k) (h : k < ct p 0 720) (he : 0 ≤ e) (he2 : e ≤ 720) : dk p 0 k < e ↔ k < ct p 0 e := by
  obtain ⟨r0, r1, r2, r3⟩ := dk_yes hk h
  constructor
  · intro g
    have h1 := ct_up (p := p) (a := 0) (b := dk p 0 k) r0
    rw [r3] at h1
    have h2 := ct_mono (p := p) (a := 0) (b := dk p 0 k + 1) (c := e) (by omega) (by omega)
    rw [show bI true = 1 from rfl] at h1
    omega
  · intro g
    by_cases c : dk p 0 k < e
    · exact c
    · have h2 := ct_mono (p := p) (a := 0) (b := e) (c := dk p 0 k) he (by omega)
      omega
/-- the day to which a nominal day is moved -/
def mvF (w : Int → Bool) (sh : Int) : Nat → Int → Int
  | 0, _ => -1
  | k + 1, s => if w (dyS sh s) = true then dyS sh s else if sh = 2 then -1 else mvF w sh k (s + 1)
def mv (w : Int → Bool) (sh s : Int) : Int := mvF w sh (720 - s).toNat s
theorem mv_end {w : Int → Bool} {sh s : Int} (h : 720 ≤ s) : mv w sh s = -1 := by rw [mv, show (720 - s).toNat = 0 by omega]; rfl
theorem mv_at {w : Int → Bool} {sh s : Int} (h : s < 720) : mv w sh s = if w (dyS sh s) = true then dyS sh s else if sh = 2 then -1 else mv w sh (s + 1) := by
  rw [mv, show (720 - s).toNat = (720 - (s + 1)).toNat + 1 by omega]; rfl
def mvD (h : Int → Bool) (q : Nat → Int) (d : Int) : Int := mv (wk h) (q 5) (dyS (q 5) d)
theorem mv_iff {w : Int → Bool} {sh s : Int} (s0 : 0 ≤ s) (s1 : s < 720) (hw : w (dyS sh s) = true) : ∀ (k : Nat) (t : Int), 0 ≤ t → 720 - t ≤ k → (mv w sh t = dyS sh s ↔ t ≤ s ∧ ∀ u, t ≤ u → u < s → w (dyS sh u) = false ∧ ¬ sh = 2)
  | 0, t, t0, h => by
    have := dyS_rng (sh := sh) s0 s1
    rw [mv_end (by omega)]
    constructor
    · intro g; omega
    · intro g; omega
  | k + 1, t, t0, h => by
    have hr := dyS_rng (sh := sh) s0 s1
    by_cases c : t < 720
    · rw [mv_at c]
      have inj : dyS sh t = dyS sh s → t = s := fun g => by rw [← dyS_dyS sh t, g, dyS_dyS]
      by_cases c1 : w (dyS sh t) = true
      · rw [if_pos c1]
        constructor
        · intro g; have := inj g; subst this; exact ⟨Int.le_refl _, fun u h1 h2 => by omega⟩
        · intro ⟨g1, g2⟩
          by_cases e : t = s
          · rw [e]
          · have := (g2 t (Int.le_refl _) (by omega)).1
            rw [c1] at this; cases this
      · rw [if_neg c1]
        have tne : t ≠ s := fun e => c1 (by rw [e]; exact hw)
        by_cases c2 : sh = 2
        · rw [if_pos c2]
          constructor
          · intro g; omega
          · intro ⟨g1, g2⟩; exact absurd c2 (g2 t (Int.le_refl _) (by omega)).2
        · rw [if_neg c2, mv_iff s0 s1 hw k (t + 1) (by omega) (by omega)]
          constructor
          · intro ⟨g1, g2⟩
            refine ⟨by omega, fun u h1 h2 => ?_⟩
            by_cases e : u = t
            · subst e; exact ⟨by simpa using c1, c2⟩
            · exact g2 u (by omega) h2
          · intro ⟨g1, g2⟩
            exact ⟨by omega, fun u h1 h2 => g2 u (by omega) h2⟩
    · rw [mv_end (by omega)]
      constructor
      · intro g; omega
      · intro g; omega
theorem wb_iff {w nm : Int → Bool} {sh : Int} : ∀ s : Nat, wb w nm sh s = true ↔ ∃ t : Int, 0 ≤ t ∧ t < s ∧ nm (dyS sh t) = true ∧ ∀ u, t ≤ u → u < s → w (dyS sh u) = false ∧ ¬ sh = 2
  | 0 => by
    simp only [wb]
    constructor
    · intro g; cases g
    · rintro ⟨t, g1, g2, -⟩; omega
  | s + 1 => by
    simp only [wb, Bool.and_eq_true, Bool.or_eq_true, Bool.not_eq_true', decide_eq_false_iff_not]
    rw [wb_iff s]
    constructor
    · rintro ⟨⟨g | g, g2⟩, g3⟩
      · obtain ⟨t, t0, t1, t2, t3⟩ := g
        refine ⟨t, t0, by omega, t2, fun u h1 h2 => ?_⟩
        by_cases e : u = s
        · subst e; exact ⟨g2, g3⟩
        · exact t3 u h1 (by omega)
      · refine ⟨s, by omega, by omega, g, fun u h1 h2 => ?_⟩
        have e : u = s := by omega
        subst e; exact ⟨g2, g3⟩
    · rintro ⟨t, t0, t1, t2, t3⟩
      have hs := t3 s (by omega) (by omega)
      refine ⟨⟨?_, hs.1⟩, hs.2⟩
      by_cases e : t = s
      · subst e; exact Or.inr t2
      · exact Or.inl ⟨t, t0, by omega, t2, fun u h1 h2 => t3 u h1 (by omega)⟩
theorem mv_wk {w : Int → Bool} {sh : Int} : ∀ (k : Nat) (t : Int), 720 - t ≤ k → 0 ≤ t → mv w sh t = -1 ∨ (0 ≤ mv w sh t ∧ mv w sh t < 720 ∧ w (mv w sh t) = true)
  | 0, t, h, _ => Or.inl (mv_end (by omega))
  | k + 1, t, h, t0 => by
    by_cases c : t < 720
    · rw [mv_at c]
      have hr := dyS_rng (sh := sh) t0 c
      split
      · rename_i g; exact Or.inr ⟨hr.1, hr.2, g⟩
      · split
        · exact Or.inl rfl
        · exact mv_wk k (t + 1) (by omega) (by omega)
    · exact Or.inl (mv_end (by omega))
theorem mvD_rng (h : Int → Bool) (q : Nat → Int) {d : Int} (d0 : 0 ≤ d) (d1 : d < 720) : mvD h q d = -1 ∨ (0 ≤ mvD h q d ∧ mvD h q d < 720) := by
  have hr := dyS_rng (sh := q 5) d0 d1
  have := mv_wk (w := wk h) (sh := q 5) 720 (dyS (q 5) d) (by omega) hr.1
  unfold mvD
  omega
theorem due_iff {h : Int → Bool} {q : Nat → Int} {e : Int} (e0 : 0 ≤ e) (e1 : e < 720) : dueR h q e = true ↔ ∃ d, 0 ≤ d ∧ d < 720 ∧ nom h q d = true ∧ mvD h q d = e := by
  have he := dyS_rng (sh := q 5) e0 e1
  by_cases hw : wk h e = true
  · have hw2 : wk h (dyS (q 5) (dyS (q 5) e)) = true := by rw [dyS_dyS]; exact hw
    have key := fun d => fun (d0 : 0 ≤ d) (d1 : d < 720) => mv_iff (w := wk h) he.1 he.2 hw2 720 (dyS (q 5) d) (dyS_rng d0 d1).1 (by have := dyS_rng (sh := q 5) d0 d1; omega)
    unfold dueR due
    rw [hw, Bool.true_and, Bool.or_eq_true, wb_iff]
    constructor
    · rintro (⟨t, t0, t1, t2, t3⟩ | g)
      · have ht := dyS_rng (sh := q 5) (s := t) t0 (by omega)
        refine ⟨dyS (q 5) t, ht.1, ht.2, t2, ?_⟩
        have := (key (dyS (q 5) t) ht.1 ht.2).mpr
        rw [dyS_dyS, dyS_dyS] at this
        unfold mvD
        rw [dyS_dyS]
        exact this ⟨by omega, fun u h1 h2 => t3 u h1 (by omega)⟩
      · refine ⟨e, e0, e1, g, ?_⟩
        have := (key e e0 e1).mpr ⟨Int.le_refl _, fun u h1 h2 => by omega⟩
        rw [dyS_dyS] at this
        exact this
    · rintro ⟨d, d0, d1, d2, d3⟩
      have k1 := (key d d0 d1).mp (by rw [dyS_dyS]; exact d3)
      by_cases c : d = e
      · exact Or.inr (by rw [← c]; exact d2)
      · have hd := dyS_rng (sh := q 5) d0 d1
        have hne : dyS (q 5) d ≠ dyS (q 5) e := fun g => c (by rw [← dyS_dyS (q 5) d, g, dyS_dyS])
        refine Or.inl ⟨dyS (q 5) d, hd.1, by omega, by rw [dyS_dyS]; exact d2, fun u h1 h2 => k1.2 u h1 (by omega)⟩
  · constructor
    · intro g
      unfold dueR due at g
      rw [Bool.and_eq_true] at g
      exact absurd g.1 hw
    · rintro ⟨d, d0, d1, -, d3⟩
      have hr := dyS_rng (sh := q 5) d0 d1
      have := mv_wk (w := wk h) (sh := q 5) 720 (dyS (q 5) d) (by omega) hr.1
      unfold mvD at d3
      rw [d3] at this
      rcases this with g | ⟨-, -, g⟩
      · omega
      · exact absurd g hw
set_option maxHeartbeats 4000000 in
set_option maxRecDepth 100000 in
theorem c_m_isNominal (l : Launch) (D : va_G) (cy : Nat → ClassId) (sa : Nat → Addr) (hfl : l.stackTraces = false) (ad : Nat → Nat) (M : Nat → Int → Int) (h : Int → Bool) (td : Int) (n : Nat) (q : Nat → Nat → Int) (rq : Nat → Nat) (hmi : MI h td n q rq M) (x : Int) (g0 : 0 ≤ x) (g1 : x < (n : Int)) (d : Int) (d0 : 0 ≤ d) (d1 : d < 720) : Ct l D cy sa yX3_isNominal cX3_isNominal 5 (some .boolean) 3 0 0 (ml cy ad M) [.ref (ad 0), vi x, vi d] (fun v ws2 => v = some (vi (bI (nom h (q x.toNat) d))) ∧ ws2 = ml cy ad M) no_x := by
  refine Ct.of (own := RX3) (lc := [(0, .ref (ad 0)), (1, vi x), (2, vi d)]) (by decide +kernel) hfl (Nat.le_of_ble_eq_true rfl) rfl rfl ?_
  intro p e s m args below meth c A C hex hnm
  generalize hQ : vx_MQ below (Qo D (fun v ws2 => v = some (vi (bI (nom h (q x.toNat) d))) ∧ ws2 = ml cy ad M) A) (Xo D no_x A) args s 0 0 A = Q
  replace hQ := hQ.symm
  obtain ⟨hch, ⟨htd, td0, td1⟩, ⟨hmn, hn8⟩, hR, hZ, hQ12⟩ := id hmi
  obtain ⟨p0, pe, pm, pn, p2, p3, p4, p5, p8, p9⟩ := (hR x g0 g1).2
  refine V.aload_n C dX3_isNominal_0 0 rfl ?_
  refine V.getf C (v := .ref (ad 5)) 0 rfl rfl inX3 5 (by decide) fl_X3_17 (fun _ h => h) rfl dX3_isNominal_1 ?_
  refine V.iload_n C dX3_isNominal_4 1 rfl ?_
  refine V.iald C (v := q x.toNat 1) 3 rfl (by omega) (by omega) (by decide) (ld_ar (by omega) ((hR _ (g0) (g1)).1.2.1)) dX3_isNominal_5 ?_
  refine V.istore_n C (lc2 := [(3, vi (q x.toNat 1)), (0, .ref (ad 0)), (1, vi x), (2, vi d)]) dX3_isNominal_6 (by decide) rfl ?_
  refine V.iload_n C dX3_isNominal_7 3 rfl ?_
  refine V.bipush C dX3_isNominal_8 (by decide) ?_
  refine V.idiv C dX3_isNominal_10 ⟨by omega, by omega⟩ (by omega) ⟨by omega, by omega⟩ (by omega) ?_
  refine V.bipush C dX3_isNominal_11 (by decide) ?_
  refine V.imul C dX3_isNominal_13 ?_
  rw [show ((d / 30) * 30) = (d - d % 30) from (by omega)]
  refine V.istore C (lc2 := [(4, vi (d - d % 30)), (3, vi (q x.toNat 1)), (0, .ref (ad 0)), (1, vi x), (2, vi d)]) dX3_isNominal_14 (by decide) rfl ?_
  refine V.iload_n C dX3_isNominal_16 4 rfl ?_
  refine V.aload_n C dX3_isNominal_17 2 rfl ?_
  refine V.getf C (v := .ref (ad 7)) 0 rfl rfl inX3 7 (by decide) fl_X3_23 (fun _ h => h) rfl dX3_isNominal_18 ?_
  refine V.iload_n C dX3_isNominal_21 3 rfl ?_
  refine V.iald C (v := q x.toNat 2) 5 rfl (by omega) (by omega) (by decide) (ld_ar (by omega) ((hR _ (g0) (g1)).1.2.2.2.1)) dX3_isNominal_22 ?_
  refine V.icmp_ge C 28 dX3_isNominal_23 (by decide) ⟨by omega, by omega⟩ ⟨by omega, by omega⟩ (fun h23 => ?_) (fun h23 => ?_)
  · skip
    refine V.aload_n C dX3_isNominal_28 2 rfl ?_
    refine V.getf C (v := .ref (ad 4)) 0 rfl rfl inX3 4 (by decide) fl_X3_13 (fun _ h => h) rfl dX3_isNominal_29 ?_
    refine V.iload_n C dX3_isNominal_32 3 rfl ?_
    refine V.iald C (v := q x.toNat 0) 2 rfl (by omega) (by omega) (by decide) (ld_ar (by omega) ((hR _ (g0) (g1)).1.1)) dX3_isNominal_33 ?_
    refine V.if_ne C 56 dX3_isNominal_34 (by decide) ⟨by omega, by omega⟩ (fun h34 => ?_) (fun h34 => ?_)
    · skip
      refine V.aload_n C dX3_isNominal_56 2 rfl ?_
      refine V.getf C (v := .ref (ad 4)) 0 rfl rfl inX3 4 (by decide) fl_X3_13 (fun _ h => h) rfl dX3_isNominal_57 ?_
      refine V.iload_n C dX3_isNominal_60 3 rfl ?_
      refine V.iald C (v := q x.toNat 0) 2 rfl (by omega) (by omega) (by decide) (ld_ar (by omega) ((hR _ (g0) (g1)).1.1)) dX3_isNominal_61 ?_
      refine V.iconst C dX3_isNominal_62 ?_
      refine V.icmp_ne C 80 dX3_isNominal_63 (by decide) ⟨by omega, by omega⟩ ⟨by decide, by decide⟩ (fun h63 => ?_) (fun h63 => ?_)
      · skip
        refine V.aload_n C dX3_isNominal_80 2 rfl ?_
        refine V.iload_n C dX3_isNominal_81 4 rfl ?_
        refine V.callV C (As := [vi d]) (st := []) (wr := []) kV_X3_71 (c_m_works l D cy sa hfl ad M h hch d (by omega) (by omega)) rfl 0 rfl rfl rfl rfl (Nat.le_of_ble_eq_true rfl) ⟨by decide, by decide⟩ ⟨by decide, by decide⟩ dX3_isNominal_82 (fun _ _ h => h.elim) (fun v1 w2 r3 => ?_)
        obtain ⟨rfl, hw2⟩ := r3
        rw [hw2]
        show V D 5 A p l e (rmL 3 0 0) s m args below meth c Q 0 0 (ml cy ad M) 85 [(4, vi (d - d % 30)), (3, vi (q x.toNat 1)), (0, .ref (ad 0)), (1, vi x), (2, vi d)] [vi (bI (wk h d))]
        refine V.if_eqB C 126 dX3_isNominal_85 (by decide) (fun h85 => ?_) (fun h85 => ?_)
        · skip
          refine V.iconst C dX3_isNominal_126 ?_
          show V D 5 A p l e (rmL 3 0 0) s m args below meth c Q 0 0 (ml cy ad M) 127 [(4, vi (d - d % 30)), (3, vi (q x.toNat 1)), (0, .ref (ad 0)), (1, vi x), (2, vi d)] [vi (bI false)]
          rw [hQ]
          exact V.zret C dX3_isNominal_127 (by decide) (by decide) (by
                have pn1 := pn (by omega)
                refine ⟨rb ?_, rfl⟩
                rw [nom, decide_eq_true (by omega), Bool.true_and, if_neg h34, if_neg h63]
                by_cases c2 : q x.toNat 0 = 2
                · rw [if_pos c2, NS, if_neg (by rw [h85]; decide), decide_eq_false (by omega)]
                · rw [if_neg c2, NE, if_neg (by rw [h85]; decide), decide_eq_false (by omega)])
        · skip
          refine V.aload_n C dX3_isNominal_88 2 rfl ?_
          refine V.getf C (v := .ref (ad 4)) 0 rfl rfl inX3 4 (by decide) fl_X3_13 (fun _ h => h) rfl dX3_isNominal_89 ?_
          refine V.iload_n C dX3_isNominal_92 3 rfl ?_
          refine V.iald C (v := q x.toNat 0) 2 rfl (by omega) (by omega) (by decide) (ld_ar (by omega) ((hR _ (g0) (g1)).1.1)) dX3_isNominal_93 ?_
          refine V.iconst C dX3_isNominal_94 ?_
          refine V.icmp_ne C 108 dX3_isNominal_95 (by decide) ⟨by omega, by omega⟩ ⟨by decide, by decide⟩ (fun h95 => ?_) (fun h95 => ?_)
          · skip
            refine V.aload_n C dX3_isNominal_108 2 rfl ?_
            refine V.iload_n C dX3_isNominal_109 4 rfl ?_
            refine V.iload C dX3_isNominal_110 0 rfl ?_
            refine V.bipush C dX3_isNominal_112 (by decide) ?_
            refine V.iadd C dX3_isNominal_114 ?_
            refine V.callV C (As := [vi d, vi ((d - d % 30) + 29)]) (st := []) (wr := []) kV_X3_78 (c_m_workingFrom l D cy sa hfl ad M h hch d (d - d % 30 + 29) (by omega) (by omega) (by omega) (by omega)) rfl 0 rfl rfl rfl rfl (Nat.le_of_ble_eq_true rfl) ⟨by decide, by decide⟩ ⟨by decide, by decide⟩ dX3_isNominal_115 (fun _ _ h => h.elim) (fun v4 w5 r6 => ?_)
            obtain ⟨rfl, hw5⟩ := r6
            rw [hw5]
            show V D 5 A p l e (rmL 3 0 0) s m args below meth c Q 0 0 (ml cy ad M) 118 [(4, vi (d - d % 30)), (3, vi (q x.toNat 1)), (0, .ref (ad 0)), (1, vi x), (2, vi d)] [vi (ct (wk h) d (d - d % 30 + 29 + 1))]
            have wr := ct_rng (wk h) d (d - d % 30 + 29 + 1) (by omega)
            refine V.iload_n C dX3_isNominal_118 1 rfl ?_
            refine V.icmp_ne C 126 dX3_isNominal_119 (by decide) ⟨by omega, by omega⟩ ⟨by omega, by omega⟩ (fun h119 => ?_) (fun h119 => ?_)
            · skip
              refine V.iconst C dX3_isNominal_126 ?_
              show V D 5 A p l e (rmL 3 0 0) s m args below meth c Q 0 0 (ml cy ad M) 127 [(4, vi (d - d % 30)), (3, vi (q x.toNat 1)), (0, .ref (ad 0)), (1, vi x), (2, vi d)] [vi (bI false)]
              rw [hQ]
              exact V.zret C dX3_isNominal_127 (by decide) (by decide) (⟨rb (by rw [nom, decide_eq_true (by omega), Bool.true_and, if_neg h34, if_neg h63, if_neg (by omega), NE, if_pos h85, show d - d % 30 + 30 = d - d % 30 + 29 + 1 by omega, decide_eq_false h119]), rfl⟩)
            · skip
              refine V.iconst C dX3_isNominal_122 ?_
              refine V.goto C 127 dX3_isNominal_123 (by decide) ?_
              show V D 5 A p l e (rmL 3 0 0) s m args below meth c Q 0 0 (ml cy ad M) 127 [(4, vi (d - d % 30)), (3, vi (q x.toNat 1)), (0, .ref (ad 0)), (1, vi x), (2, vi d)] [vi (bI true)]
              rw [hQ]
              exact V.zret C dX3_isNominal_127 (by decide) (by decide) (⟨rb (by rw [nom, decide_eq_true (by omega), Bool.true_and, if_neg h34, if_neg h63, if_neg (by omega), NE, if_pos h85, show d - d % 30 + 30 = d - d % 30 + 29 + 1 by omega, decide_eq_true h119]), rfl⟩)
          · skip
            refine V.aload_n C dX3_isNominal_98 2 rfl ?_
            refine V.iload C dX3_isNominal_99 0 rfl ?_
            refine V.iload_n C dX3_isNominal_101 4 rfl ?_
            refine V.callV C (As := [vi (d - d % 30), vi d]) (st := []) (wr := []) kV_X3_78 (c_m_workingFrom l D cy sa hfl ad M h hch (d - d % 30) d (by omega) (by omega) (by omega) (by omega)) rfl 0 rfl rfl rfl rfl (Nat.le_of_ble_eq_true rfl) ⟨by decide, by decide⟩ ⟨by decide, by decide⟩ dX3_isNominal_102 (fun _ _ h => h.elim) (fun v7 w8 r9 => ?_)
            obtain ⟨rfl, hw8⟩ := r9
            rw [hw8]
            show V D 5 A p l e (rmL 3 0 0) s m args below meth c Q 0 0 (ml cy ad M) 105 [(4, vi (d - d % 30)), (3, vi (q x.toNat 1)), (0, .ref (ad 0)), (1, vi x), (2, vi d)] [vi (ct (wk h) (d - d % 30) (d + 1))]
            have wr := ct_rng (wk h) (d - d % 30) (d + 1) (by omega)
            refine V.goto C 118 dX3_isNominal_105 (by decide) ?_
            refine V.iload_n C dX3_isNominal_118 1 rfl ?_
            refine V.icmp_ne C 126 dX3_isNominal_119 (by decide) ⟨by omega, by omega⟩ ⟨by omega, by omega⟩ (fun h119 => ?_) (fun h119 => ?_)
            · skip
              refine V.iconst C dX3_isNominal_126 ?_
              show V D 5 A p l e (rmL 3 0 0) s m args below meth c Q 0 0 (ml cy ad M) 127 [(4, vi (d - d % 30)), (3, vi (q x.toNat 1)), (0, .ref (ad 0)), (1, vi x), (2, vi d)] [vi (bI false)]
              rw [hQ]
              exact V.zret C dX3_isNominal_127 (by decide) (by decide) (⟨rb (by rw [nom, decide_eq_true (by omega), Bool.true_and, if_neg h34, if_neg h63, if_pos (by omega), NS, if_pos h85, decide_eq_false h119]), rfl⟩)
            · skip
              refine V.iconst C dX3_isNominal_122 ?_
              refine V.goto C 127 dX3_isNominal_123 (by decide) ?_
              show V D 5 A p l e (rmL 3 0 0) s m args below meth c Q 0 0 (ml cy ad M) 127 [(4, vi (d - d % 30)), (3, vi (q x.toNat 1)), (0, .ref (ad 0)), (1, vi x), (2, vi d)] [vi (bI true)]
              rw [hQ]
              exact V.zret C dX3_isNominal_127 (by decide) (by decide) (⟨rb (by rw [nom, decide_eq_true (by omega), Bool.true_and, if_neg h34, if_neg h63, if_pos (by omega), NS, if_pos h85, decide_eq_true h119]), rfl⟩)
      · skip
        refine V.iload_n C dX3_isNominal_66 4 rfl ?_
        refine V.iload C dX3_isNominal_67 0 rfl ?_
        refine V.isub C dX3_isNominal_69 ?_
        refine V.iload_n C dX3_isNominal_70 1 rfl ?_
        refine V.icmp_ne C 78 dX3_isNominal_71 (by decide) ⟨by omega, by omega⟩ ⟨by omega, by omega⟩ (fun h71 => ?_) (fun h71 => ?_)
        · skip
          refine V.iconst C dX3_isNominal_78 ?_
          show V D 5 A p l e (rmL 3 0 0) s m args below meth c Q 0 0 (ml cy ad M) 79 [(4, vi (d - d % 30)), (3, vi (q x.toNat 1)), (0, .ref (ad 0)), (1, vi x), (2, vi d)] [vi (bI false)]
          rw [hQ]
          exact V.zret C dX3_isNominal_79 (by decide) (by decide) (⟨rb (by rw [nom, decide_eq_true (by omega), Bool.true_and, if_neg h34, if_pos h63, decide_eq_false (by omega)]), rfl⟩)
        · skip
          refine V.iconst C dX3_isNominal_74 ?_
          refine V.goto C 79 dX3_isNominal_75 (by decide) ?_
          show V D 5 A p l e (rmL 3 0 0) s m args below meth c Q 0 0 (ml cy ad M) 79 [(4, vi (d - d % 30)), (3, vi (q x.toNat 1)), (0, .ref (ad 0)), (1, vi x), (2, vi d)] [vi (bI true)]
          rw [hQ]
          exact V.zret C dX3_isNominal_79 (by decide) (by decide) (⟨rb (by rw [nom, decide_eq_true (by omega), Bool.true_and, if_neg h34, if_pos h63, decide_eq_true (by omega)]), rfl⟩)
    · skip
      have pe1 := pe h34
      have pr1 := Int.emod_nonneg (d - q x.toNat 2) (show q x.toNat 1 ≠ 0 by omega)
      have pr2 := Int.emod_lt_of_pos (d - q x.toNat 2) (show 0 < q x.toNat 1 by omega)
      refine V.iload_n C dX3_isNominal_37 4 rfl ?_
      refine V.aload_n C dX3_isNominal_38 2 rfl ?_
      refine V.getf C (v := .ref (ad 7)) 0 rfl rfl inX3 7 (by decide) fl_X3_23 (fun _ h => h) rfl dX3_isNominal_39 ?_
      refine V.iload_n C dX3_isNominal_42 3 rfl ?_
      refine V.iald C (v := q x.toNat 2) 5 rfl (by omega) (by omega) (by decide) (ld_ar (by omega) ((hR _ (g0) (g1)).1.2.2.2.1)) dX3_isNominal_43 ?_
      refine V.isub C dX3_isNominal_44 ?_
      refine V.iload_n C dX3_isNominal_45 1 rfl ?_
      refine V.irem C dX3_isNominal_46 ⟨by omega, by omega⟩ (by omega) ⟨by omega, by omega⟩ (by omega) ?_
      refine V.if_ne C 54 dX3_isNominal_47 (by decide) ⟨by omega, by omega⟩ (fun h47 => ?_) (fun h47 => ?_)
      · skip
        refine V.iconst C dX3_isNominal_54 ?_
        show V D 5 A p l e (rmL 3 0 0) s m args below meth c Q 0 0 (ml cy ad M) 55 [(4, vi (d - d % 30)), (3, vi (q x.toNat 1)), (0, .ref (ad 0)), (1, vi x), (2, vi d)] [vi (bI false)]
        rw [hQ]
        exact V.zret C dX3_isNominal_55 (by decide) (by decide) (⟨rb (by rw [nom, decide_eq_true (by omega), Bool.true_and, if_pos h34, decide_eq_false h47]), rfl⟩)
      · skip
        refine V.iconst C dX3_isNominal_50 ?_
        refine V.goto C 55 dX3_isNominal_51 (by decide) ?_
        show V D 5 A p l e (rmL 3 0 0) s m args below meth c Q 0 0 (ml cy ad M) 55 [(4, vi (d - d % 30)), (3, vi (q x.toNat 1)), (0, .ref (ad 0)), (1, vi x), (2, vi d)] [vi (bI true)]
        rw [hQ]
        exact V.zret C dX3_isNominal_55 (by decide) (by decide) (⟨rb (by rw [nom, decide_eq_true (by omega), Bool.true_and, if_pos h34, decide_eq_true h47]), rfl⟩)
  · skip
    refine V.iconst C dX3_isNominal_26 ?_
    show V D 5 A p l e (rmL 3 0 0) s m args below meth c Q 0 0 (ml cy ad M) 27 [(4, vi (d - d % 30)), (3, vi (q x.toNat 1)), (0, .ref (ad 0)), (1, vi x), (2, vi d)] [vi (bI false)]
    rw [hQ]
    exact V.zret C dX3_isNominal_27 (by decide) (by decide) (⟨rb (by rw [nom, decide_eq_false (by omega)]; rfl), rfl⟩)
set_option maxHeartbeats 4000000 in
set_option maxRecDepth 100000 in
theorem c_m_moved (l : Launch) (D : va_G) (cy : Nat → ClassId) (sa : Nat → Addr) (hfl : l.stackTraces = false) (ad : Nat → Nat) (M : Nat → Int → Int) (h : Int → Bool) (td : Int) (n : Nat) (q : Nat → Nat → Int) (rq : Nat → Nat) (hmi : MI h td n q rq M) (x : Int) (g0 : 0 ≤ x) (g1 : x < (n : Int)) (d : Int) (d0 : 0 ≤ d) (d1 : d < 720) : Ct l D cy sa yX3_moved cX3_moved 5 (some .int) 3 0 0 (ml cy ad M) [.ref (ad 0), vi x, vi d] (fun v ws2 => v = some (vi (mvD h (q x.toNat) d)) ∧ ws2 = ml cy ad M) no_x := by
  refine Ct.of (own := RX3) (lc := [(0, .ref (ad 0)), (1, vi x), (2, vi d)]) (by decide +kernel) hfl (Nat.le_of_ble_eq_true rfl) rfl rfl ?_
  intro p e s m args below meth c A C hex hnm
  generalize hQ : vx_MQ below (Qo D (fun v ws2 => v = some (vi (mvD h (q x.toNat) d)) ∧ ws2 = ml cy ad M) A) (Xo D no_x A) args s 0 0 A = Q
  replace hQ := hQ.symm
  obtain ⟨hch, ⟨htd, td0, td1⟩, ⟨hmn, hn8⟩, hR, hZ, hQ12⟩ := id hmi
  obtain ⟨p0, pe, pm, pn, p2, p3, p4, p5, p8, p9⟩ := (hR x g0 g1).2
  refine V.aload_n C dX3_moved_0 0 rfl ?_
  refine V.getf C (v := .ref (ad 6)) 0 rfl rfl inX3 6 (by decide) fl_X3_20 (fun _ h => h) rfl dX3_moved_1 ?_
  refine V.iload_n C dX3_moved_4 1 rfl ?_
  refine V.iald C (v := q x.toNat 5) 4 rfl (by omega) (by omega) (by decide) (ld_ar (by omega) ((hR _ (g0) (g1)).1.2.2.1)) dX3_moved_5 ?_
  refine V.if_ne C 13 dX3_moved_6 (by decide) ⟨by omega, by omega⟩ (fun h6 => ?_) (fun h6 => ?_)
  · skip
    refine V.aload_n C dX3_moved_13 0 rfl ?_
    refine V.getf C (v := .ref (ad 6)) 0 rfl rfl inX3 6 (by decide) fl_X3_20 (fun _ h => h) rfl dX3_moved_14 ?_
    refine V.iload_n C dX3_moved_17 1 rfl ?_
    refine V.iald C (v := q x.toNat 5) 4 rfl (by omega) (by omega) (by decide) (ld_ar (by omega) ((hR _ (g0) (g1)).1.2.2.1)) dX3_moved_18 ?_
    refine V.iconst C dX3_moved_19 ?_
    refine V.icmp_ne C 27 dX3_moved_20 (by decide) ⟨by omega, by omega⟩ ⟨by decide, by decide⟩ (fun h20 => ?_) (fun h20 => ?_)
    · skip
      refine V.iconst C dX3_moved_27 ?_
      refine V.istore_n C (lc2 := [(3, vi 0), (0, .ref (ad 0)), (1, vi x), (2, vi d)]) dX3_moved_28 (by decide) rfl ?_
      refine V.iload_n C dX3_moved_29 3 rfl ?_
      refine V.istore C (lc2 := [(4, vi d), (3, vi 0), (0, .ref (ad 0)), (1, vi x), (2, vi d)]) dX3_moved_30 (by decide) rfl ?_
      have loop32 : ∀ (fz : Nat) (t : Int) (y : Int), (0 ≤ t) → (t ≤ 720) → (y = dyS (q x.toNat 5) t) → (mvD h (q x.toNat) d = mv (wk h) (q x.toNat 5) t) → ((720 - t).toNat < fz) → V D 5 A p l e (rmL 3 0 0) s m args below meth c Q 0 0 (ml cy ad M) 32 [(4, vi y), (3, vi 0), (0, .ref (ad 0)), (1, vi x), (2, vi d)] [] := by
        intro fz
        induction fz with
        | zero => intro t y e0 e1 e2 e3 hf; exact absurd hf (Nat.not_lt_zero _)
        | succ fz ih32 =>
          intro t y e0 e1 e2 e3 hf32
          have er : (t < 720 → 0 ≤ y ∧ y < 720) ∧ (¬ t < 720 → y < 0 ∨ 720 ≤ y) ∧ -1 ≤ y ∧ y ≤ 720 := by rw [e2]; unfold dyS; split <;> omega
          refine V.iload C dX3_moved_32 0 rfl ?_
          refine V.callS C (As := [vi y]) (st := []) (wr := []) kS_X3_67 (c_m_isDay l D cy sa hfl _ y ⟨by omega, by omega⟩) rfl rfl rfl (Nat.le_of_ble_eq_true rfl) ⟨by decide, by decide⟩ ⟨by decide, by decide⟩ dX3_moved_34 (fun _ _ h => h.elim) (fun v1 w2 r3 => ?_)
          obtain ⟨rfl, hw2⟩ := r3
          rw [hw2]
          show V D 5 A p l e (rmL 3 0 0) s m args below meth c Q 0 0 (ml cy ad M) 37 [(4, vi y), (3, vi 0), (0, .ref (ad 0)), (1, vi x), (2, vi d)] [vi (bI (isDy y))]
          refine V.if_eqB C 62 dX3_moved_37 (by decide) (fun h37 => ?_) (fun h37 => ?_)
          · skip
            have i37 := isDy_no.mp h37
            refine V.iload C dX3_moved_62 0 rfl ?_
            refine V.callS C (As := [vi y]) (st := []) (wr := []) kS_X3_67 (c_m_isDay l D cy sa hfl _ y ⟨by omega, by omega⟩) rfl rfl rfl (Nat.le_of_ble_eq_true rfl) ⟨by decide, by decide⟩ ⟨by decide, by decide⟩ dX3_moved_64 (fun _ _ h => h.elim) (fun v4 w5 r6 => ?_)
            obtain ⟨rfl, hw5⟩ := r6
            rw [hw5]
            show V D 5 A p l e (rmL 3 0 0) s m args below meth c Q 0 0 (ml cy ad M) 67 [(4, vi y), (3, vi 0), (0, .ref (ad 0)), (1, vi x), (2, vi d)] [vi (bI (isDy y))]
            refine V.if_eqB C 84 dX3_moved_67 (by decide) (fun h67 => ?_) (fun h67 => (by rw [h37] at h67; cases h67))
            refine V.iconst C dX3_moved_84 ?_
            rw [hQ]
            exact V.iret C dX3_moved_85 (by decide) (by decide) (⟨ri (by rw [e3, mv_end (by omega)]), rfl⟩)
          · skip
            have i37 := isDy_iff.mp h37
            refine V.aload_n C dX3_moved_40 2 rfl ?_
            refine V.iload C dX3_moved_41 0 rfl ?_
            refine V.callV C (As := [vi y]) (st := []) (wr := []) kV_X3_71 (c_m_works l D cy sa hfl ad M h hch y (by omega) (by omega)) rfl 0 rfl rfl rfl rfl (Nat.le_of_ble_eq_true rfl) ⟨by decide, by decide⟩ ⟨by decide, by decide⟩ dX3_moved_43 (fun _ _ h => h.elim) (fun v7 w8 r9 => ?_)
            obtain ⟨rfl, hw8⟩ := r9
            rw [hw8]
            show V D 5 A p l e (rmL 3 0 0) s m args below meth c Q 0 0 (ml cy ad M) 46 [(4, vi y), (3, vi 0), (0, .ref (ad 0)), (1, vi x), (2, vi d)] [vi (bI (wk h y))]
            refine V.if_neB C 62 dX3_moved_46 (by decide) (fun h46 => ?_) (fun h46 => ?_)
            · skip
              refine V.iload C dX3_moved_62 0 rfl ?_
              refine V.callS C (As := [vi y]) (st := []) (wr := []) kS_X3_67 (c_m_isDay l D cy sa hfl _ y ⟨by omega, by omega⟩) rfl rfl rfl (Nat.le_of_ble_eq_true rfl) ⟨by decide, by decide⟩ ⟨by decide, by decide⟩ dX3_moved_64 (fun _ _ h => h.elim) (fun v10 w11 r12 => ?_)
              obtain ⟨rfl, hw11⟩ := r12
              rw [hw11]
              show V D 5 A p l e (rmL 3 0 0) s m args below meth c Q 0 0 (ml cy ad M) 67 [(4, vi y), (3, vi 0), (0, .ref (ad 0)), (1, vi x), (2, vi d)] [vi (bI (isDy y))]
              refine V.if_eqB C 84 dX3_moved_67 (by decide) (fun h67 => (by rw [h37] at h67; cases h67)) (fun h67 => ?_)
              refine V.aload_n C dX3_moved_70 2 rfl ?_
              refine V.iload C dX3_moved_71 0 rfl ?_
              refine V.callV C (As := [vi y]) (st := []) (wr := []) kV_X3_71 (c_m_works l D cy sa hfl ad M h hch y (by omega) (by omega)) rfl 0 rfl rfl rfl rfl (Nat.le_of_ble_eq_true rfl) ⟨by decide, by decide⟩ ⟨by decide, by decide⟩ dX3_moved_73 (fun _ _ h => h.elim) (fun v13 w14 r15 => ?_)
              obtain ⟨rfl, hw14⟩ := r15
              rw [hw14]
              show V D 5 A p l e (rmL 3 0 0) s m args below meth c Q 0 0 (ml cy ad M) 76 [(4, vi y), (3, vi 0), (0, .ref (ad 0)), (1, vi x), (2, vi d)] [vi (bI (wk h y))]
              refine V.if_eqB C 84 dX3_moved_76 (by decide) (fun h76 => (by rw [h46] at h76; cases h76)) (fun h76 => ?_)
              refine V.iload C dX3_moved_79 0 rfl ?_
              refine V.goto C 85 dX3_moved_81 (by decide) ?_
              rw [hQ]
              exact V.iret C dX3_moved_85 (by decide) (by decide) (⟨ri (by rw [e3, mv_at (by omega), if_pos (by rw [← e2]; exact h46)]; exact e2), rfl⟩)
            · skip
              refine V.iload_n C dX3_moved_49 1 rfl ?_
              refine V.if_eq C 62 dX3_moved_50 (by decide) ⟨by decide, by decide⟩ (fun h50 => ?_) (fun h50 => (by exact absurd h50 (by decide)))
              refine V.iload C dX3_moved_62 0 rfl ?_
              refine V.callS C (As := [vi y]) (st := []) (wr := []) kS_X3_67 (c_m_isDay l D cy sa hfl _ y ⟨by omega, by omega⟩) rfl rfl rfl (Nat.le_of_ble_eq_true rfl) ⟨by decide, by decide⟩ ⟨by decide, by decide⟩ dX3_moved_64 (fun _ _ h => h.elim) (fun v16 w17 r18 => ?_)
              obtain ⟨rfl, hw17⟩ := r18
              rw [hw17]
              show V D 5 A p l e (rmL 3 0 0) s m args below meth c Q 0 0 (ml cy ad M) 67 [(4, vi y), (3, vi 0), (0, .ref (ad 0)), (1, vi x), (2, vi d)] [vi (bI (isDy y))]
              refine V.if_eqB C 84 dX3_moved_67 (by decide) (fun h67 => (by rw [h37] at h67; cases h67)) (fun h67 => ?_)
              refine V.aload_n C dX3_moved_70 2 rfl ?_
              refine V.iload C dX3_moved_71 0 rfl ?_
              refine V.callV C (As := [vi y]) (st := []) (wr := []) kV_X3_71 (c_m_works l D cy sa hfl ad M h hch y (by omega) (by omega)) rfl 0 rfl rfl rfl rfl (Nat.le_of_ble_eq_true rfl) ⟨by decide, by decide⟩ ⟨by decide, by decide⟩ dX3_moved_73 (fun _ _ h => h.elim) (fun v19 w20 r21 => ?_)
              obtain ⟨rfl, hw20⟩ := r21
              rw [hw20]
              show V D 5 A p l e (rmL 3 0 0) s m args below meth c Q 0 0 (ml cy ad M) 76 [(4, vi y), (3, vi 0), (0, .ref (ad 0)), (1, vi x), (2, vi d)] [vi (bI (wk h y))]
              refine V.if_eqB C 84 dX3_moved_76 (by decide) (fun h76 => ?_) (fun h76 => (by rw [h46] at h76; cases h76))
              refine V.iconst C dX3_moved_84 ?_
              rw [hQ]
              exact V.iret C dX3_moved_85 (by decide) (by decide) (⟨ri (by rw [e3, mv_at (by omega), if_neg (by rw [← e2, h46]; decide), if_pos (by omega)]), rfl⟩)
      exact loop32 _ (dyS (q x.toNat 5) d) d ((dyS_rng d0 d1).1) (by have := dyS_rng (sh := q x.toNat 5) d0 d1; omega) ((dyS_dyS _ _).symm) rfl (Nat.lt_succ_self _)
    · skip
      refine V.iconst C dX3_moved_23 ?_
      refine V.goto C 28 dX3_moved_24 (by decide) ?_
      refine V.istore_n C (lc2 := [(3, vi (-1)), (0, .ref (ad 0)), (1, vi x), (2, vi d)]) dX3_moved_28 (by decide) rfl ?_
      refine V.iload_n C dX3_moved_29 3 rfl ?_
      refine V.istore C (lc2 := [(4, vi d), (3, vi (-1)), (0, .ref (ad 0)), (1, vi x), (2, vi d)]) dX3_moved_30 (by decide) rfl ?_
      have loop32 : ∀ (fz : Nat) (t : Int) (y : Int), (0 ≤ t) → (t ≤ 720) → (y = dyS (q x.toNat 5) t) → (mvD h (q x.toNat) d = mv (wk h) (q x.toNat 5) t) → ((720 - t).toNat < fz) → V D 5 A p l e (rmL 3 0 0) s m args below meth c Q 0 0 (ml cy ad M) 32 [(4, vi y), (3, vi (-1)), (0, .ref (ad 0)), (1, vi x), (2, vi d)] [] := by
        intro fz
        induction fz with
        | zero => intro t y e0 e1 e2 e3 hf; exact absurd hf (Nat.not_lt_zero _)
        | succ fz ih32 =>
          intro t y e0 e1 e2 e3 hf32
          have er : (t < 720 → 0 ≤ y ∧ y < 720) ∧ (¬ t < 720 → y < 0 ∨ 720 ≤ y) ∧ -1 ≤ y ∧ y ≤ 720 := by rw [e2]; unfold dyS; split <;> omega
          refine V.iload C dX3_moved_32 0 rfl ?_
          refine V.callS C (As := [vi y]) (st := []) (wr := []) kS_X3_67 (c_m_isDay l D cy sa hfl _ y ⟨by omega, by omega⟩) rfl rfl rfl (Nat.le_of_ble_eq_true rfl) ⟨by decide, by decide⟩ ⟨by decide, by decide⟩ dX3_moved_34 (fun _ _ h => h.elim) (fun v22 w23 r24 => ?_)
          obtain ⟨rfl, hw23⟩ := r24
          rw [hw23]
          show V D 5 A p l e (rmL 3 0 0) s m args below meth c Q 0 0 (ml cy ad M) 37 [(4, vi y), (3, vi (-1)), (0, .ref (ad 0)), (1, vi x), (2, vi d)] [vi (bI (isDy y))]
          refine V.if_eqB C 62 dX3_moved_37 (by decide) (fun h37 => ?_) (fun h37 => ?_)
          · skip
            have i37 := isDy_no.mp h37
            refine V.iload C dX3_moved_62 0 rfl ?_
            refine V.callS C (As := [vi y]) (st := []) (wr := []) kS_X3_67 (c_m_isDay l D cy sa hfl _ y ⟨by omega, by omega⟩) rfl rfl rfl (Nat.le_of_ble_eq_true rfl) ⟨by decide, by decide⟩ ⟨by decide, by decide⟩ dX3_moved_64 (fun _ _ h => h.elim) (fun v25 w26 r27 => ?_)
            obtain ⟨rfl, hw26⟩ := r27
            rw [hw26]
            show V D 5 A p l e (rmL 3 0 0) s m args below meth c Q 0 0 (ml cy ad M) 67 [(4, vi y), (3, vi (-1)), (0, .ref (ad 0)), (1, vi x), (2, vi d)] [vi (bI (isDy y))]
            refine V.if_eqB C 84 dX3_moved_67 (by decide) (fun h67 => ?_) (fun h67 => (by rw [h37] at h67; cases h67))
            refine V.iconst C dX3_moved_84 ?_
            rw [hQ]
            exact V.iret C dX3_moved_85 (by decide) (by decide) (⟨ri (by rw [e3, mv_end (by omega)]), rfl⟩)
          · skip
            have i37 := isDy_iff.mp h37
            refine V.aload_n C dX3_moved_40 2 rfl ?_
            refine V.iload C dX3_moved_41 0 rfl ?_
            refine V.callV C (As := [vi y]) (st := []) (wr := []) kV_X3_71 (c_m_works l D cy sa hfl ad M h hch y (by omega) (by omega)) rfl 0 rfl rfl rfl rfl (Nat.le_of_ble_eq_true rfl) ⟨by decide, by decide⟩ ⟨by decide, by decide⟩ dX3_moved_43 (fun _ _ h => h.elim) (fun v28 w29 r30 => ?_)
            obtain ⟨rfl, hw29⟩ := r30
            rw [hw29]
            show V D 5 A p l e (rmL 3 0 0) s m args below meth c Q 0 0 (ml cy ad M) 46 [(4, vi y), (3, vi (-1)), (0, .ref (ad 0)), (1, vi x), (2, vi d)] [vi (bI (wk h y))]
            refine V.if_neB C 62 dX3_moved_46 (by decide) (fun h46 => ?_) (fun h46 => ?_)
            · skip
              refine V.iload C dX3_moved_62 0 rfl ?_
              refine V.callS C (As := [vi y]) (st := []) (wr := []) kS_X3_67 (c_m_isDay l D cy sa hfl _ y ⟨by omega, by omega⟩) rfl rfl rfl (Nat.le_of_ble_eq_true rfl) ⟨by decide, by decide⟩ ⟨by decide, by decide⟩ dX3_moved_64 (fun _ _ h => h.elim) (fun v31 w32 r33 => ?_)
              obtain ⟨rfl, hw32⟩ := r33
              rw [hw32]
              show V D 5 A p l e (rmL 3 0 0) s m args below meth c Q 0 0 (ml cy ad M) 67 [(4, vi y), (3, vi (-1)), (0, .ref (ad 0)), (1, vi x), (2, vi d)] [vi (bI (isDy y))]
              refine V.if_eqB C 84 dX3_moved_67 (by decide) (fun h67 => (by rw [h37] at h67; cases h67)) (fun h67 => ?_)
              refine V.aload_n C dX3_moved_70 2 rfl ?_
              refine V.iload C dX3_moved_71 0 rfl ?_
              refine V.callV C (As := [vi y]) (st := []) (wr := []) kV_X3_71 (c_m_works l D cy sa hfl ad M h hch y (by omega) (by omega)) rfl 0 rfl rfl rfl rfl (Nat.le_of_ble_eq_true rfl) ⟨by decide, by decide⟩ ⟨by decide, by decide⟩ dX3_moved_73 (fun _ _ h => h.elim) (fun v34 w35 r36 => ?_)
              obtain ⟨rfl, hw35⟩ := r36
              rw [hw35]
              show V D 5 A p l e (rmL 3 0 0) s m args below meth c Q 0 0 (ml cy ad M) 76 [(4, vi y), (3, vi (-1)), (0, .ref (ad 0)), (1, vi x), (2, vi d)] [vi (bI (wk h y))]
              refine V.if_eqB C 84 dX3_moved_76 (by decide) (fun h76 => (by rw [h46] at h76; cases h76)) (fun h76 => ?_)
              refine V.iload C dX3_moved_79 0 rfl ?_
              refine V.goto C 85 dX3_moved_81 (by decide) ?_
              rw [hQ]
              exact V.iret C dX3_moved_85 (by decide) (by decide) (⟨ri (by rw [e3, mv_at (by omega), if_pos (by rw [← e2]; exact h46)]; exact e2), rfl⟩)
            · skip
              refine V.iload_n C dX3_moved_49 1 rfl ?_
              refine V.if_eq C 62 dX3_moved_50 (by decide) ⟨by decide, by decide⟩ (fun h50 => (by exact absurd h50 (by decide))) (fun h50 => ?_)
              refine V.iload C dX3_moved_53 0 rfl ?_
              refine V.iload_n C dX3_moved_55 1 rfl ?_
              refine V.iadd C dX3_moved_56 ?_
              refine V.istore C (lc2 := [(4, vi (y + (-1))), (3, vi (-1)), (0, .ref (ad 0)), (1, vi x), (2, vi d)]) dX3_moved_57 (by decide) rfl ?_
              refine V.goto C 32 dX3_moved_59 (by decide) ?_
              exact ih32 (t + 1) (y + (-1)) (by omega) (by omega) (by rw [e2]; unfold dyS; by_cases c : q x.toNat 5 = 1; (rw [if_pos c, if_pos c] <;> omega); (rw [if_neg c, if_neg c] <;> omega)) (by rw [e3, mv_at (by omega), if_neg (by rw [← e2, h46]; decide), if_neg (by omega)]) (by omega)
      exact loop32 _ (dyS (q x.toNat 5) d) d ((dyS_rng d0 d1).1) (by have := dyS_rng (sh := q x.toNat 5) d0 d1; omega) ((dyS_dyS _ _).symm) rfl (Nat.lt_succ_self _)
  · skip
    refine V.iconst C dX3_moved_9 ?_
    refine V.goto C 28 dX3_moved_10 (by decide) ?_
    refine V.istore_n C (lc2 := [(3, vi 1), (0, .ref (ad 0)), (1, vi x), (2, vi d)]) dX3_moved_28 (by decide) rfl ?_
    refine V.iload_n C dX3_moved_29 3 rfl ?_
    refine V.istore C (lc2 := [(4, vi d), (3, vi 1), (0, .ref (ad 0)), (1, vi x), (2, vi d)]) dX3_moved_30 (by decide) rfl ?_
    have loop32 : ∀ (fz : Nat) (t : Int) (y : Int), (0 ≤ t) → (t ≤ 720) → (y = dyS (q x.toNat 5) t) → (mvD h (q x.toNat) d = mv (wk h) (q x.toNat 5) t) → ((720 - t).toNat < fz) → V D 5 A p l e (rmL 3 0 0) s m args below meth c Q 0 0 (ml cy ad M) 32 [(4, vi y), (3, vi 1), (0, .ref (ad 0)), (1, vi x), (2, vi d)] [] := by
      intro fz
      induction fz with
      | zero => intro t y e0 e1 e2 e3 hf; exact absurd hf (Nat.not_lt_zero _)
      | succ fz ih32 =>
        intro t y e0 e1 e2 e3 hf32
        have er : (t < 720 → 0 ≤ y ∧ y < 720) ∧ (¬ t < 720 → y < 0 ∨ 720 ≤ y) ∧ -1 ≤ y ∧ y ≤ 720 := by rw [e2]; unfold dyS; split <;> omega
        refine V.iload C dX3_moved_32 0 rfl ?_
        refine V.callS C (As := [vi y]) (st := []) (wr := []) kS_X3_67 (c_m_isDay l D cy sa hfl _ y ⟨by omega, by omega⟩) rfl rfl rfl (Nat.le_of_ble_eq_true rfl) ⟨by decide, by decide⟩ ⟨by decide, by decide⟩ dX3_moved_34 (fun _ _ h => h.elim) (fun v37 w38 r39 => ?_)
        obtain ⟨rfl, hw38⟩ := r39
        rw [hw38]
        show V D 5 A p l e (rmL 3 0 0) s m args below meth c Q 0 0 (ml cy ad M) 37 [(4, vi y), (3, vi 1), (0, .ref (ad 0)), (1, vi x), (2, vi d)] [vi (bI (isDy y))]
        refine V.if_eqB C 62 dX3_moved_37 (by decide) (fun h37 => ?_) (fun h37 => ?_)
        · skip
          have i37 := isDy_no.mp h37
          refine V.iload C dX3_moved_62 0 rfl ?_
          refine V.callS C (As := [vi y]) (st := []) (wr := []) kS_X3_67 (c_m_isDay l D cy sa hfl _ y ⟨by omega, by omega⟩) rfl rfl rfl (Nat.le_of_ble_eq_true rfl) ⟨by decide, by decide⟩ ⟨by decide, by decide⟩ dX3_moved_64 (fun _ _ h => h.elim) (fun v40 w41 r42 => ?_)
          obtain ⟨rfl, hw41⟩ := r42
          rw [hw41]
          show V D 5 A p l e (rmL 3 0 0) s m args below meth c Q 0 0 (ml cy ad M) 67 [(4, vi y), (3, vi 1), (0, .ref (ad 0)), (1, vi x), (2, vi d)] [vi (bI (isDy y))]
          refine V.if_eqB C 84 dX3_moved_67 (by decide) (fun h67 => ?_) (fun h67 => (by rw [h37] at h67; cases h67))
          refine V.iconst C dX3_moved_84 ?_
          rw [hQ]
          exact V.iret C dX3_moved_85 (by decide) (by decide) (⟨ri (by rw [e3, mv_end (by omega)]), rfl⟩)
        · skip
          have i37 := isDy_iff.mp h37
          refine V.aload_n C dX3_moved_40 2 rfl ?_
          refine V.iload C dX3_moved_41 0 rfl ?_
          refine V.callV C (As := [vi y]) (st := []) (wr := []) kV_X3_71 (c_m_works l D cy sa hfl ad M h hch y (by omega) (by omega)) rfl 0 rfl rfl rfl rfl (Nat.le_of_ble_eq_true rfl) ⟨by decide, by decide⟩ ⟨by decide, by decide⟩ dX3_moved_43 (fun _ _ h => h.elim) (fun v43 w44 r45 => ?_)
          obtain ⟨rfl, hw44⟩ := r45
          rw [hw44]
          show V D 5 A p l e (rmL 3 0 0) s m args below meth c Q 0 0 (ml cy ad M) 46 [(4, vi y), (3, vi 1), (0, .ref (ad 0)), (1, vi x), (2, vi d)] [vi (bI (wk h y))]
          refine V.if_neB C 62 dX3_moved_46 (by decide) (fun h46 => ?_) (fun h46 => ?_)
          · skip
            refine V.iload C dX3_moved_62 0 rfl ?_
            refine V.callS C (As := [vi y]) (st := []) (wr := []) kS_X3_67 (c_m_isDay l D cy sa hfl _ y ⟨by omega, by omega⟩) rfl rfl rfl (Nat.le_of_ble_eq_true rfl) ⟨by decide, by decide⟩ ⟨by decide, by decide⟩ dX3_moved_64 (fun _ _ h => h.elim) (fun v46 w47 r48 => ?_)
            obtain ⟨rfl, hw47⟩ := r48
            rw [hw47]
            show V D 5 A p l e (rmL 3 0 0) s m args below meth c Q 0 0 (ml cy ad M) 67 [(4, vi y), (3, vi 1), (0, .ref (ad 0)), (1, vi x), (2, vi d)] [vi (bI (isDy y))]
            refine V.if_eqB C 84 dX3_moved_67 (by decide) (fun h67 => (by rw [h37] at h67; cases h67)) (fun h67 => ?_)
            refine V.aload_n C dX3_moved_70 2 rfl ?_
            refine V.iload C dX3_moved_71 0 rfl ?_
            refine V.callV C (As := [vi y]) (st := []) (wr := []) kV_X3_71 (c_m_works l D cy sa hfl ad M h hch y (by omega) (by omega)) rfl 0 rfl rfl rfl rfl (Nat.le_of_ble_eq_true rfl) ⟨by decide, by decide⟩ ⟨by decide, by decide⟩ dX3_moved_73 (fun _ _ h => h.elim) (fun v49 w50 r51 => ?_)
            obtain ⟨rfl, hw50⟩ := r51
            rw [hw50]
            show V D 5 A p l e (rmL 3 0 0) s m args below meth c Q 0 0 (ml cy ad M) 76 [(4, vi y), (3, vi 1), (0, .ref (ad 0)), (1, vi x), (2, vi d)] [vi (bI (wk h y))]
            refine V.if_eqB C 84 dX3_moved_76 (by decide) (fun h76 => (by rw [h46] at h76; cases h76)) (fun h76 => ?_)
            refine V.iload C dX3_moved_79 0 rfl ?_
            refine V.goto C 85 dX3_moved_81 (by decide) ?_
            rw [hQ]
            exact V.iret C dX3_moved_85 (by decide) (by decide) (⟨ri (by rw [e3, mv_at (by omega), if_pos (by rw [← e2]; exact h46)]; exact e2), rfl⟩)
          · skip
            refine V.iload_n C dX3_moved_49 1 rfl ?_
            refine V.if_eq C 62 dX3_moved_50 (by decide) ⟨by decide, by decide⟩ (fun h50 => (by exact absurd h50 (by decide))) (fun h50 => ?_)
            refine V.iload C dX3_moved_53 0 rfl ?_
            refine V.iload_n C dX3_moved_55 1 rfl ?_
            refine V.iadd C dX3_moved_56 ?_
            refine V.istore C (lc2 := [(4, vi (y + 1)), (3, vi 1), (0, .ref (ad 0)), (1, vi x), (2, vi d)]) dX3_moved_57 (by decide) rfl ?_
            refine V.goto C 32 dX3_moved_59 (by decide) ?_
            exact ih32 (t + 1) (y + 1) (by omega) (by omega) (by rw [e2]; unfold dyS; by_cases c : q x.toNat 5 = 1; (rw [if_pos c, if_pos c] <;> omega); (rw [if_neg c, if_neg c] <;> omega)) (by rw [e3, mv_at (by omega), if_neg (by rw [← e2, h46]; decide), if_neg (by omega)]) (by omega)
    exact loop32 _ (dyS (q x.toNat 5) d) d ((dyS_rng d0 d1).1) (by have := dyS_rng (sh := q x.toNat 5) d0 d1; omega) ((dyS_dyS _ _).symm) rfl (Nat.lt_succ_self _)
