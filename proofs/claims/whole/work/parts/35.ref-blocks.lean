/-! the reference: counts, what blocks -/
def fC (h : Int → Bool) (q : Nat → Nat → Int) (c : Nat → Int) (i : Nat) : Int := dk (dueR h (q i)) 0 (c i)
theorem fC_fo (h : Int → Bool) (q : Nat → Nat → Int) : fC h q (fun i => q i 8) = fo h q := rfl
theorem fC_rng (h : Int → Bool) (q : Nat → Nat → Int) (c : Nat → Int) (i : Nat) : -1 ≤ fC h q c i ∧ fC h q c i < 720 := by
  have := dk_rng (p := dueR h (q i)) (a := 0) (k := c i)
  unfold fC
  omega
theorem frB_none {B : Int} {p : Int → Bool} (h : ∀ a, a < B → 0 ≤ a → p a = false) : ∀ (j : Nat) (a : Int), 0 ≤ a → B - a ≤ j → frB B p a = -1
  | 0, a, _, ha => frB_end (by omega)
  | j + 1, a, a0, ha => by
    by_cases c : a < B
    · rw [frB_at c, h a c a0, if_neg (by decide)]; exact frB_none h j (a + 1) (by omega) (by omega)
    · exact frB_end (by omega)
theorem lb_none {n rb : Nat} {f : Nat → Int} (hf : ∀ i, i < n → -1 ≤ f i) : lb n rb f (-1) = -1 := by
  unfold lb
  refine frB_none (fun a a1 a0 => ?_) n 0 (by decide) (by omega)
  have := hf a.toNat (by omega)
  unfold lbP
  by_cases c : f a.toNat = -1
  · rw [decide_eq_true c]; simp
  · rw [decide_eq_false (show ¬ f a.toNat ≤ -1 by omega)]; simp
theorem lbM_t {rb : Nat} {f : Nat → Int} {fb i : Int} (h1 : rb.testBit i.toNat = true) (h2 : ¬ f i.toNat = -1) (h3 : f i.toNat ≤ fb) : lbP rb f fb i = true := by simp [lbP, h1, h2, h3]
theorem lbM_f {rb : Nat} {f : Nat → Int} {fb i : Int} (h : rb.testBit i.toNat = false ∨ f i.toNat = -1 ∨ fb < f i.toNat) : lbP rb f fb i = false := by
  rcases h with h | h | h
  · simp [lbP, h]
  · simp [lbP, h]
  · simp [lbP, show ¬ f i.toNat ≤ fb by omega]
theorem nioM_t {f bl : Nat → Int} {x g ch r : Int} (r0 : 0 ≤ r) (e : nioF f bl x r.toNat = (ch, g)) (h1 : ¬ f r.toNat = -1) (h2 : f r.toNat < g) (h3 : bl r.toNat = -1) : nioF f bl x (r + 1).toNat = (r, f r.toNat) := by
  rw [show (r + 1).toNat = r.toNat + 1 by omega, nio_t e h1 h2 h3, show ((r.toNat : Nat) : Int) = r by omega]
theorem nioM_f {f bl : Nat → Int} {x g ch r : Int} (r0 : 0 ≤ r) (e : nioF f bl x r.toNat = (ch, g)) (h : f r.toNat = -1 ∨ g ≤ f r.toNat ∨ ¬ bl r.toNat = -1) : nioF f bl x (r + 1).toNat = (ch, g) := by
  rw [show (r + 1).toNat = r.toNat + 1 by omega]
  exact nio_f e h
def cU (c : Nat → Int) (i : Nat) : Nat → Int := fun j => if j = i then c j + 1 else c j
theorem fC_adv {h : Int → Bool} {q : Nat → Nat → Int} {c : Nat → Int} {i : Nat} (h1 : ¬ fC h q c i = -1) (h0 : 0 ≤ c i) : fC h q (cU c i) = adv h q (i : Int) (fC h q c) := by
  funext j
  unfold adv
  rw [Int.toNat_natCast]
  by_cases e : j = i
  · subst e
    rw [if_pos rfl]
    show dk (dueR h (q j)) 0 (if j = j then c j + 1 else c j) = _
    rw [if_pos rfl]
    have hl := dk_lt h1 (by decide) h0
    obtain ⟨r0, r1, r2, r3⟩ := dk_yes h0 hl
    have h2 := ct_up (p := dueR h (q j)) (a := 0) (b := dk (dueR h (q j)) 0 (c j)) r0
    rw [r3, r2] at h2
    rw [show c j + 1 = ct (dueR h (q j)) 0 (dk (dueR h (q j)) 0 (c j) + 1) by rw [h2]; rfl, dk_ct (by omega) (by omega)]
    rfl
  · rw [if_neg e]
    show dk (dueR h (q j)) 0 (if j = i then c j + 1 else c j) = _
    rw [if_neg e]
    rfl
theorem sumN_cU {c : Nat → Int} {i : Nat} : ∀ n : Nat, sumN (cU c i) n = sumN c n + if i < n then 1 else 0
  | 0 => by simp [sumN]
  | n + 1 => by
    simp only [sumN]
    rw [sumN_cU n]
    unfold cU
    by_cases e : n = i
    · subst e; rw [if_pos rfl, if_neg (Nat.lt_irrefl _), if_pos (Nat.lt_succ_self _)]; omega
    · rw [if_neg e]
      by_cases g : i < n
      · rw [if_pos g, if_pos (by omega)]; omega
      · rw [if_neg g, if_neg (by omega)]; omega
theorem sumN_le {c : Nat → Int} {i : Nat} : ∀ n : Nat, (∀ j, j < n → c j ≤ 720) → sumN c n ≤ 720 * (n : Int) - if i < n then 720 - c i else 0
  | 0, _ => by simp [sumN]
  | n + 1, h => by
    have ih := sumN_le (c := c) (i := i) n fun j hj => h j (by omega)
    have hn := h n (by omega)
    simp only [sumN]
    by_cases e : n = i
    · subst e; rw [if_neg (Nat.lt_irrefl _)] at ih; rw [if_pos (Nat.lt_succ_self _)]; omega
    · by_cases g : i < n
      · rw [if_pos g] at ih; rw [if_pos (by omega)]; omega
      · rw [if_neg g] at ih; rw [if_neg (by omega)]; omega
theorem sumN_0 {c : Nat → Int} : ∀ n : Nat, (∀ j, j < n → 0 ≤ c j) → 0 ≤ sumN c n
  | 0, _ => by simp [sumN]
  | n + 1, h => by
    have := sumN_0 (c := c) n fun j hj => h j (by omega)
    have := h n (by omega)
    simp only [sumN]
    omega
theorem MI.fin {h : Int → Bool} {td : Int} {n : Nat} {q : Nat → Nat → Int} {rq : Nat → Nat} {M : Nat → Int → Int} {x : Int} (hm : MI h td n q rq M) (h0 : 0 ≤ x) (h1 : x < (n : Int)) (h8 : q x.toNat 8 < 720) : MI h td n (qfin q x.toNat td) rq (upM (upM M 10 x (q x.toNat 8 + 1)) 11 x td) := by
  obtain ⟨c1, ⟨c2, c2a, c2b⟩, c3, c4, c5, c6⟩ := hm
  have o : ∀ k, k ≠ 10 → k ≠ 11 → upM (upM M 10 x (q x.toNat 8 + 1)) 11 x td k = M k := fun k h10 h11 => (upM_off h11).trans (upM_off h10)
  refine ⟨c1.same (o 2 (by decide) (by decide)), by rw [o 0 (by decide) (by decide)]; exact ⟨c2, c2a, c2b⟩, by rw [o 0 (by decide) (by decide)]; exact c3, fun y y0 y1 => ?_, fun y y0 y1 => ?_, by rw [o 12 (by decide) (by decide)]; exact c6⟩
  · obtain ⟨⟨a4, a5, a6, a7, a8, a9, a10, a11⟩, hp⟩ := c4 y y0 y1
    by_cases e : y = x
    · subst e
      refine ⟨?_, ?_⟩
      · unfold MR
        rw [o 4 (by decide) (by decide), o 5 (by decide) (by decide), o 6 (by decide) (by decide), o 7 (by decide) (by decide), o 8 (by decide) (by decide), o 9 (by decide) (by decide), upM_s, upM_n (Or.inl (by decide)), upM_s]
        simp only [qfin_s (q := q) (r := y.toNat) (td := td) (show (0 : Nat) ≠ 8 by decide) (by decide), qfin_s (q := q) (r := y.toNat) (td := td) (show (1 : Nat) ≠ 8 by decide) (by decide), qfin_s (q := q) (r := y.toNat) (td := td) (show (2 : Nat) ≠ 8 by decide) (by decide), qfin_s (q := q) (r := y.toNat) (td := td) (show (3 : Nat) ≠ 8 by decide) (by decide), qfin_s (q := q) (r := y.toNat) (td := td) (show (4 : Nat) ≠ 8 by decide) (by decide), qfin_s (q := q) (r := y.toNat) (td := td) (show (5 : Nat) ≠ 8 by decide) (by decide)]
        exact ⟨a4, a5, a6, a7, a8, a9, by simp [qfin], by simp [qfin]⟩
      · obtain ⟨p0, pe, pm, pn, p2, p3, p4, p5, p8, p9⟩ := hp
        refine ⟨?_, ?_, ?_, ?_, ?_, ?_, ?_, ?_, ?_, ?_⟩
        · rw [qfin_s (by decide) (by decide)]; exact p0
        · rw [qfin_s (by decide) (by decide), qfin_s (by decide) (by decide)]; exact pe
        · rw [qfin_s (by decide) (by decide), qfin_s (by decide) (by decide)]; exact pm
        · rw [qfin_s (by decide) (by decide), qfin_s (by decide) (by decide)]; exact pn
        · rw [qfin_s (by decide) (by decide)]; exact p2
        · rw [qfin_s (by decide) (by decide)]; exact p3
        · rw [qfin_s (by decide) (by decide)]; exact p4
        · rw [qfin_s (by decide) (by decide)]; exact p5
        · have : qfin q y.toNat td y.toNat 8 = q y.toNat 8 + 1 := by simp [qfin]
          omega
        · have : qfin q y.toNat td y.toNat 9 = td := by simp [qfin]
          omega
    · rw [qfin_n (show y.toNat ≠ x.toNat by omega)]
      refine ⟨?_, hp⟩
      unfold MR
      rw [o 4 (by decide) (by decide), o 5 (by decide) (by decide), o 6 (by decide) (by decide), o 7 (by decide) (by decide), o 8 (by decide) (by decide), o 9 (by decide) (by decide), upM_n (Or.inl (by decide)), upM_n (Or.inr e), upM_n (Or.inr e)]
      exact ⟨a4, a5, a6, a7, a8, a9, a10, a11⟩
  · rw [upM_n (Or.inl (by decide)), upM_n (Or.inr (by omega)), upM_n (Or.inr (by omega))]
    exact c5 y y0 y1
set_option maxHeartbeats 4000000 in
set_option maxRecDepth 100000 in
theorem c_m_blocks10 (l : Launch) (D : va_G) (cy : Nat → ClassId) (sa : Nat → Addr) (hfl : l.stackTraces = false) (ad : Nat → Nat) (M : Nat → Int → Int) (h : Int → Bool) (td : Int) (n : Nat) (q : Nat → Nat → Int) (rq : Nat → Nat) (hmi : MI h td n q rq M) (hmk : MK h n q M) (c8 : Nat → Int) (hc8 : ∀ y : Int, 0 ≤ y → y < (n : Int) → M 10 y = c8 y.toNat ∧ 0 ≤ c8 y.toNat ∧ c8 y.toNat ≤ 720) (x : Int) (g0 : 0 ≤ x) (g1 : x < (n : Int)) : Ct l D cy sa yX3_blocks cX3_blocks 7 (some .int) 6 0 0 (ml cy ad M) [.ref (ad 0), .ref (ad 10), vi x] (fun v ws2 => v = some (vi (lb n (rq x.toNat) (fC h q c8) (fC h q c8 x.toNat))) ∧ ws2 = ml cy ad M) no_x := by
  refine Ct.of (own := RX3) (lc := [(0, .ref (ad 0)), (1, .ref (ad 10)), (2, vi x)]) (by decide +kernel) hfl (Nat.le_of_ble_eq_true rfl) rfl rfl ?_
  intro p e s m args below meth c A C hex hnm
  generalize hQ : vx_MQ below (Qo D (fun v ws2 => v = some (vi (lb n (rq x.toNat) (fC h q c8) (fC h q c8 x.toNat))) ∧ ws2 = ml cy ad M) A) (Xo D no_x A) args s 0 0 A = Q
  replace hQ := hQ.symm
  obtain ⟨hch, ⟨htd, td0, td1⟩, ⟨hmn, hn8⟩, hR, hZ, hQ12⟩ := id hmi
  have cx := hc8 x g0 g1
  refine V.aload_n C dX3_blocks_0 0 rfl ?_
  refine V.iload_n C dX3_blocks_1 2 rfl ?_
  refine V.aload_n C dX3_blocks_2 1 rfl ?_
  refine V.iload_n C dX3_blocks_3 2 rfl ?_
  refine V.iald C (v := c8 x.toNat) 8 rfl (by omega) (by omega) (by decide) (ld_ar (by omega) ((hc8 x g0 g1).1)) dX3_blocks_4 ?_
  refine V.callV C (As := [vi x, vi (c8 x.toNat)]) (st := []) (wr := []) kV_X3_100 (c_m_dueAt l D cy sa hfl ad M h td n q rq (hmi) (hmk) x (g0) (g1) (c8 x.toNat) (cx.2.1) ⟨by omega, by omega⟩) rfl 0 rfl rfl rfl rfl (Nat.le_of_ble_eq_true rfl) ⟨by decide, by decide⟩ ⟨by decide, by decide⟩ dX3_blocks_5 (fun _ _ h => h.elim) (fun v1 w2 r3 => ?_)
  obtain ⟨rfl, hw2⟩ := r3
  rw [hw2]
  show V D 7 A p l e (rmL 6 0 0) s m args below meth c Q 0 0 (ml cy ad M) 8 [(0, .ref (ad 0)), (1, .ref (ad 10)), (2, vi x)] [vi (fC h q c8 x.toNat)]
  have fx9 := fC_rng h q c8 x.toNat
  refine V.istore_n C (lc2 := [(3, vi (fC h q c8 x.toNat)), (0, .ref (ad 0)), (1, .ref (ad 10)), (2, vi x)]) dX3_blocks_8 (by decide) rfl ?_
  refine V.iconst C dX3_blocks_9 ?_
  refine V.istore C (lc2 := [(4, vi (-1)), (3, vi (fC h q c8 x.toNat)), (0, .ref (ad 0)), (1, .ref (ad 10)), (2, vi x)]) dX3_blocks_10 (by decide) rfl ?_
  refine V.aload_n C dX3_blocks_12 2 rfl ?_
  refine V.getf C (v := vi (n : Int)) 0 rfl rfl inX3 3 (by decide) fl_X3_64 (fun _ h => h) (by show some _ = some _; rw [hmi.2.2.1.1]) dX3_blocks_13 ?_
  refine V.iconst C dX3_blocks_16 ?_
  refine V.isub C dX3_blocks_17 ?_
  refine V.istore C (lc2 := [(5, vi ((n : Int) - 1)), (4, vi (-1)), (3, vi (fC h q c8 x.toNat)), (0, .ref (ad 0)), (1, .ref (ad 10)), (2, vi x)]) dX3_blocks_18 (by decide) rfl ?_
  have loop20 : ∀ (fz : Nat) (r : Int) (b : Int), (-1 ≤ r) → (r < (n : Int)) → (-1 ≤ b ∧ b < (n : Int)) → (b = frB n (lbP (rq x.toNat) (fC h q c8) (fC h q c8 x.toNat)) (r + 1)) → ((r + 1).toNat < fz) → V D 7 A p l e (rmL 6 0 0) s m args below meth c Q 0 0 (ml cy ad M) 20 [(5, vi r), (4, vi b), (3, vi (fC h q c8 x.toNat)), (0, .ref (ad 0)), (1, .ref (ad 10)), (2, vi x)] [] := by
    intro fz
    induction fz with
    | zero => intro r b e0 e1 e2 e3 hf; exact absurd hf (Nat.not_lt_zero _)
    | succ fz ih20 =>
      intro r b e0 e1 e2 e3 hf20
      refine V.iload C dX3_blocks_20 0 rfl ?_
      refine V.if_lt C 88 dX3_blocks_22 (by decide) ⟨by omega, by omega⟩ (fun h22 => ?_) (fun h22 => ?_)
      · skip
        refine V.iload C dX3_blocks_88 1 rfl ?_
        rw [hQ]
        exact V.iret C dX3_blocks_90 (by decide) (by decide) (⟨ri (by rw [e3, show r + 1 = 0 by omega]; rfl), rfl⟩)
      · skip
        have e0b : 0 ≤ r := by omega
        have cr := hc8 r e0b e1
        have hqr : M 12 (8 * x + r) = bI ((rq x.toNat).testBit r.toNat) := by rw [hQ12 x r g0 (by omega) e0b (by omega), rqb, decide_eq_true g1, decide_eq_true e1]; rfl
        have fr9 := fC_rng h q c8 r.toNat
        refine V.iload_n C dX3_blocks_25 2 rfl ?_
        refine V.iconst C dX3_blocks_26 ?_
        refine V.icmp_eq C 88 dX3_blocks_27 (by decide) ⟨by omega, by omega⟩ ⟨by decide, by decide⟩ (fun h27 => ?_) (fun h27 => ?_)
        · skip
          refine V.iload C dX3_blocks_88 1 rfl ?_
          rw [hQ]
          exact V.iret C dX3_blocks_90 (by decide) (by decide) (⟨ri (by rw [h27, lb_none (fun i _ => (fC_rng h q c8 i).1), e3, h27]; exact frB_none (fun a a1 a0 => lbM_f (by have := (fC_rng h q c8 a.toNat).1; omega)) n (r + 1) (by omega) (by omega)), rfl⟩)
        · skip
          refine V.aload_n C dX3_blocks_30 3 rfl ?_
          refine V.getf C (v := .ref (ad 12)) 0 rfl rfl inX3 12 (by decide) fl_X3_38 (fun _ h => h) rfl dX3_blocks_31 ?_
          refine V.bipush C dX3_blocks_34 (by decide) ?_
          refine V.iload_n C dX3_blocks_36 5 rfl ?_
          refine V.imul C dX3_blocks_37 ?_
          refine V.iload C dX3_blocks_38 0 rfl ?_
          refine V.iadd C dX3_blocks_40 ?_
          refine V.zald C (v := bI ((rq x.toNat).testBit r.toNat)) 10 rfl (by omega) (by omega) (by decide) (ld_ar (by omega) hqr) dX3_blocks_41 ?_
          refine V.if_eqB C 58 dX3_blocks_42 (by decide) (fun h42 => ?_) (fun h42 => ?_)
          · skip
            refine V.iconst C dX3_blocks_58 ?_
            refine V.istore C (lc2 := [(6, vi (-1)), (5, vi r), (4, vi b), (3, vi (fC h q c8 x.toNat)), (0, .ref (ad 0)), (1, .ref (ad 10)), (2, vi x)]) dX3_blocks_59 (by decide) rfl ?_
            refine V.iload C dX3_blocks_61 0 rfl ?_
            refine V.iconst C dX3_blocks_63 ?_
            refine V.icmp_eq C 78 dX3_blocks_64 (by decide) ⟨by decide, by decide⟩ ⟨by decide, by decide⟩ (fun h64 => ?_) (fun h64 => (by exact absurd h64 (by decide)))
            refine V.iload C dX3_blocks_78 2 rfl ?_
            refine V.istore C (lc2 := [(4, vi b), (6, vi (-1)), (5, vi r), (3, vi (fC h q c8 x.toNat)), (0, .ref (ad 0)), (1, .ref (ad 10)), (2, vi x)]) dX3_blocks_80 (by decide) rfl ?_
            refine V.iinc C (lc2 := [(5, vi (r + (-1))), (4, vi b), (6, vi (-1)), (3, vi (fC h q c8 x.toNat)), (0, .ref (ad 0)), (1, .ref (ad 10)), (2, vi x)]) dX3_blocks_82 2 rfl (by decide) rfl ?_
            refine V.goto C 20 dX3_blocks_85 (by decide) ?_
            exact V.sub [0, 1, 3, 4, 5, 6] rfl (ih20 (r + (-1)) b (by omega) (by omega) (by omega) (by rw [show r + -1 + 1 = r by omega, frB_at (by omega), lbM_f (Or.inl h42), if_neg (by decide)]; exact e3) (by omega))
          · skip
            refine V.aload_n C dX3_blocks_45 3 rfl ?_
            refine V.iload C dX3_blocks_46 0 rfl ?_
            refine V.aload_n C dX3_blocks_48 4 rfl ?_
            refine V.iload C dX3_blocks_49 0 rfl ?_
            refine V.iald C (v := c8 r.toNat) 8 rfl (by omega) (by omega) (by decide) (ld_ar (by omega) ((hc8 r e0b (by omega)).1)) dX3_blocks_51 ?_
            refine V.callV C (As := [vi r, vi (c8 r.toNat)]) (st := []) (wr := []) kV_X3_100 (c_m_dueAt l D cy sa hfl ad M h td n q rq (hmi) (hmk) r (e0b) (by omega) (c8 r.toNat) (cr.2.1) ⟨by omega, by omega⟩) rfl 0 rfl rfl rfl rfl (Nat.le_of_ble_eq_true rfl) ⟨by decide, by decide⟩ ⟨by decide, by decide⟩ dX3_blocks_52 (fun _ _ h => h.elim) (fun v4 w5 r6 => ?_)
            obtain ⟨rfl, hw5⟩ := r6
            rw [hw5]
            show V D 7 A p l e (rmL 6 0 0) s m args below meth c Q 0 0 (ml cy ad M) 55 [(5, vi r), (4, vi b), (3, vi (fC h q c8 x.toNat)), (0, .ref (ad 0)), (1, .ref (ad 10)), (2, vi x)] [vi (fC h q c8 r.toNat)]
            refine V.goto C 59 dX3_blocks_55 (by decide) ?_
            refine V.istore C (lc2 := [(6, vi (fC h q c8 r.toNat)), (5, vi r), (4, vi b), (3, vi (fC h q c8 x.toNat)), (0, .ref (ad 0)), (1, .ref (ad 10)), (2, vi x)]) dX3_blocks_59 (by decide) rfl ?_
            refine V.iload C dX3_blocks_61 0 rfl ?_
            refine V.iconst C dX3_blocks_63 ?_
            refine V.icmp_eq C 78 dX3_blocks_64 (by decide) ⟨by omega, by omega⟩ ⟨by decide, by decide⟩ (fun h64 => ?_) (fun h64 => ?_)
            · skip
              refine V.iload C dX3_blocks_78 2 rfl ?_
              refine V.istore C (lc2 := [(4, vi b), (6, vi (fC h q c8 r.toNat)), (5, vi r), (3, vi (fC h q c8 x.toNat)), (0, .ref (ad 0)), (1, .ref (ad 10)), (2, vi x)]) dX3_blocks_80 (by decide) rfl ?_
              refine V.iinc C (lc2 := [(5, vi (r + (-1))), (4, vi b), (6, vi (fC h q c8 r.toNat)), (3, vi (fC h q c8 x.toNat)), (0, .ref (ad 0)), (1, .ref (ad 10)), (2, vi x)]) dX3_blocks_82 2 rfl (by decide) rfl ?_
              refine V.goto C 20 dX3_blocks_85 (by decide) ?_
              exact V.sub [0, 1, 3, 4, 5, 6] rfl (ih20 (r + (-1)) b (by omega) (by omega) (by omega) (by rw [show r + -1 + 1 = r by omega, frB_at (by omega), lbM_f (Or.inr (Or.inl h64)), if_neg (by decide)]; exact e3) (by omega))
            · skip
              refine V.iload C dX3_blocks_67 0 rfl ?_
              refine V.iload_n C dX3_blocks_69 3 rfl ?_
              refine V.icmp_gt C 78 dX3_blocks_70 (by decide) ⟨by omega, by omega⟩ ⟨by omega, by omega⟩ (fun h70 => ?_) (fun h70 => ?_)
              · skip
                refine V.iload C dX3_blocks_78 2 rfl ?_
                refine V.istore C (lc2 := [(4, vi b), (6, vi (fC h q c8 r.toNat)), (5, vi r), (3, vi (fC h q c8 x.toNat)), (0, .ref (ad 0)), (1, .ref (ad 10)), (2, vi x)]) dX3_blocks_80 (by decide) rfl ?_
                refine V.iinc C (lc2 := [(5, vi (r + (-1))), (4, vi b), (6, vi (fC h q c8 r.toNat)), (3, vi (fC h q c8 x.toNat)), (0, .ref (ad 0)), (1, .ref (ad 10)), (2, vi x)]) dX3_blocks_82 2 rfl (by decide) rfl ?_
                refine V.goto C 20 dX3_blocks_85 (by decide) ?_
                exact V.sub [0, 1, 3, 4, 5, 6] rfl (ih20 (r + (-1)) b (by omega) (by omega) (by omega) (by rw [show r + -1 + 1 = r by omega, frB_at (by omega), lbM_f (Or.inr (Or.inr (by omega))), if_neg (by decide)]; exact e3) (by omega))
              · skip
                refine V.iload C dX3_blocks_73 1 rfl ?_
                refine V.goto C 80 dX3_blocks_75 (by decide) ?_
                refine V.istore C (lc2 := [(4, vi r), (6, vi (fC h q c8 r.toNat)), (5, vi r), (3, vi (fC h q c8 x.toNat)), (0, .ref (ad 0)), (1, .ref (ad 10)), (2, vi x)]) dX3_blocks_80 (by decide) rfl ?_
                refine V.iinc C (lc2 := [(5, vi (r + (-1))), (4, vi r), (6, vi (fC h q c8 r.toNat)), (3, vi (fC h q c8 x.toNat)), (0, .ref (ad 0)), (1, .ref (ad 10)), (2, vi x)]) dX3_blocks_82 2 rfl (by decide) rfl ?_
                refine V.goto C 20 dX3_blocks_85 (by decide) ?_
                exact V.sub [0, 1, 3, 4, 5, 6] rfl (ih20 (r + (-1)) r (by omega) (by omega) (by omega) (by rw [show r + -1 + 1 = r by omega, frB_at (by omega), lbM_t h42 h64 (by omega), if_pos rfl]) (by omega))
  exact loop20 _ ((n : Int) - 1) (-1) (by omega) (by omega) (⟨by decide, by omega⟩) ((frB_end (by omega)).symm) (Nat.lt_succ_self _)
set_option maxHeartbeats 4000000 in
set_option maxRecDepth 100000 in
theorem c_m_blocks16 (l : Launch) (D : va_G) (cy : Nat → ClassId) (sa : Nat → Addr) (hfl : l.stackTraces = false) (ad : Nat → Nat) (M : Nat → Int → Int) (h : Int → Bool) (td : Int) (n : Nat) (q : Nat → Nat → Int) (rq : Nat → Nat) (hmi : MI h td n q rq M) (hmk : MK h n q M) (c8 : Nat → Int) (hc8 : ∀ y : Int, 0 ≤ y → y < (n : Int) → M 16 y = c8 y.toNat ∧ 0 ≤ c8 y.toNat ∧ c8 y.toNat ≤ 720) (x : Int) (g0 : 0 ≤ x) (g1 : x < (n : Int)) : Ct l D cy sa yX3_blocks cX3_blocks 7 (some .int) 6 0 0 (ml cy ad M) [.ref (ad 0), .ref (ad 16), vi x] (fun v ws2 => v = some (vi (lb n (rq x.toNat) (fC h q c8) (fC h q c8 x.toNat))) ∧ ws2 = ml cy ad M) no_x := by
  refine Ct.of (own := RX3) (lc := [(0, .ref (ad 0)), (1, .ref (ad 16)), (2, vi x)]) (by decide +kernel) hfl (Nat.le_of_ble_eq_true rfl) rfl rfl ?_
  intro p e s m args below meth c A C hex hnm
  generalize hQ : vx_MQ below (Qo D (fun v ws2 => v = some (vi (lb n (rq x.toNat) (fC h q c8) (fC h q c8 x.toNat))) ∧ ws2 = ml cy ad M) A) (Xo D no_x A) args s 0 0 A = Q
  replace hQ := hQ.symm
  obtain ⟨hch, ⟨htd, td0, td1⟩, ⟨hmn, hn8⟩, hR, hZ, hQ12⟩ := id hmi
  have cx := hc8 x g0 g1
  refine V.aload_n C dX3_blocks_0 0 rfl ?_
  refine V.iload_n C dX3_blocks_1 2 rfl ?_
  refine V.aload_n C dX3_blocks_2 1 rfl ?_
  refine V.iload_n C dX3_blocks_3 2 rfl ?_
  refine V.iald C (v := c8 x.toNat) 14 rfl (by omega) (by omega) (by decide) (ld_ar (by omega) ((hc8 x g0 g1).1)) dX3_blocks_4 ?_
  refine V.callV C (As := [vi x, vi (c8 x.toNat)]) (st := []) (wr := []) kV_X3_100 (c_m_dueAt l D cy sa hfl ad M h td n q rq (hmi) (hmk) x (g0) (g1) (c8 x.toNat) (cx.2.1) ⟨by omega, by omega⟩) rfl 0 rfl rfl rfl rfl (Nat.le_of_ble_eq_true rfl) ⟨by decide, by decide⟩ ⟨by decide, by decide⟩ dX3_blocks_5 (fun _ _ h => h.elim) (fun v1 w2 r3 => ?_)
  obtain ⟨rfl, hw2⟩ := r3
  rw [hw2]
  show V D 7 A p l e (rmL 6 0 0) s m args below meth c Q 0 0 (ml cy ad M) 8 [(0, .ref (ad 0)), (1, .ref (ad 16)), (2, vi x)] [vi (fC h q c8 x.toNat)]
  have fx9 := fC_rng h q c8 x.toNat
  refine V.istore_n C (lc2 := [(3, vi (fC h q c8 x.toNat)), (0, .ref (ad 0)), (1, .ref (ad 16)), (2, vi x)]) dX3_blocks_8 (by decide) rfl ?_
  refine V.iconst C dX3_blocks_9 ?_
  refine V.istore C (lc2 := [(4, vi (-1)), (3, vi (fC h q c8 x.toNat)), (0, .ref (ad 0)), (1, .ref (ad 16)), (2, vi x)]) dX3_blocks_10 (by decide) rfl ?_
  refine V.aload_n C dX3_blocks_12 2 rfl ?_
  refine V.getf C (v := vi (n : Int)) 0 rfl rfl inX3 3 (by decide) fl_X3_64 (fun _ h => h) (by show some _ = some _; rw [hmi.2.2.1.1]) dX3_blocks_13 ?_
  refine V.iconst C dX3_blocks_16 ?_
  refine V.isub C dX3_blocks_17 ?_
  refine V.istore C (lc2 := [(5, vi ((n : Int) - 1)), (4, vi (-1)), (3, vi (fC h q c8 x.toNat)), (0, .ref (ad 0)), (1, .ref (ad 16)), (2, vi x)]) dX3_blocks_18 (by decide) rfl ?_
  have loop20 : ∀ (fz : Nat) (r : Int) (b : Int), (-1 ≤ r) → (r < (n : Int)) → (-1 ≤ b ∧ b < (n : Int)) → (b = frB n (lbP (rq x.toNat) (fC h q c8) (fC h q c8 x.toNat)) (r + 1)) → ((r + 1).toNat < fz) → V D 7 A p l e (rmL 6 0 0) s m args below meth c Q 0 0 (ml cy ad M) 20 [(5, vi r), (4, vi b), (3, vi (fC h q c8 x.toNat)), (0, .ref (ad 0)), (1, .ref (ad 16)), (2, vi x)] [] := by
    intro fz
    induction fz with
    | zero => intro r b e0 e1 e2 e3 hf; exact absurd hf (Nat.not_lt_zero _)
    | succ fz ih20 =>
      intro r b e0 e1 e2 e3 hf20
      refine V.iload C dX3_blocks_20 0 rfl ?_
      refine V.if_lt C 88 dX3_blocks_22 (by decide) ⟨by omega, by omega⟩ (fun h22 => ?_) (fun h22 => ?_)
      · skip
        refine V.iload C dX3_blocks_88 1 rfl ?_
        rw [hQ]
        exact V.iret C dX3_blocks_90 (by decide) (by decide) (⟨ri (by rw [e3, show r + 1 = 0 by omega]; rfl), rfl⟩)
      · skip
        have e0b : 0 ≤ r := by omega
        have cr := hc8 r e0b e1
        have hqr : M 12 (8 * x + r) = bI ((rq x.toNat).testBit r.toNat) := by rw [hQ12 x r g0 (by omega) e0b (by omega), rqb, decide_eq_true g1, decide_eq_true e1]; rfl
        have fr9 := fC_rng h q c8 r.toNat
        refine V.iload_n C dX3_blocks_25 2 rfl ?_
        refine V.iconst C dX3_blocks_26 ?_
        refine V.icmp_eq C 88 dX3_blocks_27 (by decide) ⟨by omega, by omega⟩ ⟨by decide, by decide⟩ (fun h27 => ?_) (fun h27 => ?_)
        · skip
          refine V.iload C dX3_blocks_88 1 rfl ?_
          rw [hQ]
          exact V.iret C dX3_blocks_90 (by decide) (by decide) (⟨ri (by rw [h27, lb_none (fun i _ => (fC_rng h q c8 i).1), e3, h27]; exact frB_none (fun a a1 a0 => lbM_f (by have := (fC_rng h q c8 a.toNat).1; omega)) n (r + 1) (by omega) (by omega)), rfl⟩)
        · skip
          refine V.aload_n C dX3_blocks_30 3 rfl ?_
          refine V.getf C (v := .ref (ad 12)) 0 rfl rfl inX3 12 (by decide) fl_X3_38 (fun _ h => h) rfl dX3_blocks_31 ?_
          refine V.bipush C dX3_blocks_34 (by decide) ?_
          refine V.iload_n C dX3_blocks_36 5 rfl ?_
          refine V.imul C dX3_blocks_37 ?_
          refine V.iload C dX3_blocks_38 0 rfl ?_
          refine V.iadd C dX3_blocks_40 ?_
          refine V.zald C (v := bI ((rq x.toNat).testBit r.toNat)) 10 rfl (by omega) (by omega) (by decide) (ld_ar (by omega) hqr) dX3_blocks_41 ?_
          refine V.if_eqB C 58 dX3_blocks_42 (by decide) (fun h42 => ?_) (fun h42 => ?_)
          · skip
            refine V.iconst C dX3_blocks_58 ?_
            refine V.istore C (lc2 := [(6, vi (-1)), (5, vi r), (4, vi b), (3, vi (fC h q c8 x.toNat)), (0, .ref (ad 0)), (1, .ref (ad 16)), (2, vi x)]) dX3_blocks_59 (by decide) rfl ?_
            refine V.iload C dX3_blocks_61 0 rfl ?_
            refine V.iconst C dX3_blocks_63 ?_
            refine V.icmp_eq C 78 dX3_blocks_64 (by decide) ⟨by decide, by decide⟩ ⟨by decide, by decide⟩ (fun h64 => ?_) (fun h64 => (by exact absurd h64 (by decide)))
            refine V.iload C dX3_blocks_78 2 rfl ?_
            refine V.istore C (lc2 := [(4, vi b), (6, vi (-1)), (5, vi r), (3, vi (fC h q c8 x.toNat)), (0, .ref (ad 0)), (1, .ref (ad 16)), (2, vi x)]) dX3_blocks_80 (by decide) rfl ?_
            refine V.iinc C (lc2 := [(5, vi (r + (-1))), (4, vi b), (6, vi (-1)), (3, vi (fC h q c8 x.toNat)), (0, .ref (ad 0)), (1, .ref (ad 16)), (2, vi x)]) dX3_blocks_82 2 rfl (by decide) rfl ?_
            refine V.goto C 20 dX3_blocks_85 (by decide) ?_
            exact V.sub [0, 1, 3, 4, 5, 6] rfl (ih20 (r + (-1)) b (by omega) (by omega) (by omega) (by rw [show r + -1 + 1 = r by omega, frB_at (by omega), lbM_f (Or.inl h42), if_neg (by decide)]; exact e3) (by omega))
          · skip
            refine V.aload_n C dX3_blocks_45 3 rfl ?_
            refine V.iload C dX3_blocks_46 0 rfl ?_
            refine V.aload_n C dX3_blocks_48 4 rfl ?_
            refine V.iload C dX3_blocks_49 0 rfl ?_
            refine V.iald C (v := c8 r.toNat) 14 rfl (by omega) (by omega) (by decide) (ld_ar (by omega) ((hc8 r e0b (by omega)).1)) dX3_blocks_51 ?_
            refine V.callV C (As := [vi r, vi (c8 r.toNat)]) (st := []) (wr := []) kV_X3_100 (c_m_dueAt l D cy sa hfl ad M h td n q rq (hmi) (hmk) r (e0b) (by omega) (c8 r.toNat) (cr.2.1) ⟨by omega, by omega⟩) rfl 0 rfl rfl rfl rfl (Nat.le_of_ble_eq_true rfl) ⟨by decide, by decide⟩ ⟨by decide, by decide⟩ dX3_blocks_52 (fun _ _ h => h.elim) (fun v4 w5 r6 => ?_)
            obtain ⟨rfl, hw5⟩ := r6
            rw [hw5]
            show V D 7 A p l e (rmL 6 0 0) s m args below meth c Q 0 0 (ml cy ad M) 55 [(5, vi r), (4, vi b), (3, vi (fC h q c8 x.toNat)), (0, .ref (ad 0)), (1, .ref (ad 16)), (2, vi x)] [vi (fC h q c8 r.toNat)]
            refine V.goto C 59 dX3_blocks_55 (by decide) ?_
            refine V.istore C (lc2 := [(6, vi (fC h q c8 r.toNat)), (5, vi r), (4, vi b), (3, vi (fC h q c8 x.toNat)), (0, .ref (ad 0)), (1, .ref (ad 16)), (2, vi x)]) dX3_blocks_59 (by decide) rfl ?_
            refine V.iload C dX3_blocks_61 0 rfl ?_
            refine V.iconst C dX3_blocks_63 ?_
            refine V.icmp_eq C 78 dX3_blocks_64 (by decide) ⟨by omega, by omega⟩ ⟨by decide, by decide⟩ (fun h64 => ?_) (fun h64 => ?_)
            · skip
              refine V.iload C dX3_blocks_78 2 rfl ?_
              refine V.istore C (lc2 := [(4, vi b), (6, vi (fC h q c8 r.toNat)), (5, vi r), (3, vi (fC h q c8 x.toNat)), (0, .ref (ad 0)), (1, .ref (ad 16)), (2, vi x)]) dX3_blocks_80 (by decide) rfl ?_
              refine V.iinc C (lc2 := [(5, vi (r + (-1))), (4, vi b), (6, vi (fC h q c8 r.toNat)), (3, vi (fC h q c8 x.toNat)), (0, .ref (ad 0)), (1, .ref (ad 16)), (2, vi x)]) dX3_blocks_82 2 rfl (by decide) rfl ?_
              refine V.goto C 20 dX3_blocks_85 (by decide) ?_
              exact V.sub [0, 1, 3, 4, 5, 6] rfl (ih20 (r + (-1)) b (by omega) (by omega) (by omega) (by rw [show r + -1 + 1 = r by omega, frB_at (by omega), lbM_f (Or.inr (Or.inl h64)), if_neg (by decide)]; exact e3) (by omega))
            · skip
              refine V.iload C dX3_blocks_67 0 rfl ?_
              refine V.iload_n C dX3_blocks_69 3 rfl ?_
              refine V.icmp_gt C 78 dX3_blocks_70 (by decide) ⟨by omega, by omega⟩ ⟨by omega, by omega⟩ (fun h70 => ?_) (fun h70 => ?_)
              · skip
                refine V.iload C dX3_blocks_78 2 rfl ?_
                refine V.istore C (lc2 := [(4, vi b), (6, vi (fC h q c8 r.toNat)), (5, vi r), (3, vi (fC h q c8 x.toNat)), (0, .ref (ad 0)), (1, .ref (ad 16)), (2, vi x)]) dX3_blocks_80 (by decide) rfl ?_
                refine V.iinc C (lc2 := [(5, vi (r + (-1))), (4, vi b), (6, vi (fC h q c8 r.toNat)), (3, vi (fC h q c8 x.toNat)), (0, .ref (ad 0)), (1, .ref (ad 16)), (2, vi x)]) dX3_blocks_82 2 rfl (by decide) rfl ?_
                refine V.goto C 20 dX3_blocks_85 (by decide) ?_
                exact V.sub [0, 1, 3, 4, 5, 6] rfl (ih20 (r + (-1)) b (by omega) (by omega) (by omega) (by rw [show r + -1 + 1 = r by omega, frB_at (by omega), lbM_f (Or.inr (Or.inr (by omega))), if_neg (by decide)]; exact e3) (by omega))
              · skip
                refine V.iload C dX3_blocks_73 1 rfl ?_
                refine V.goto C 80 dX3_blocks_75 (by decide) ?_
                refine V.istore C (lc2 := [(4, vi r), (6, vi (fC h q c8 r.toNat)), (5, vi r), (3, vi (fC h q c8 x.toNat)), (0, .ref (ad 0)), (1, .ref (ad 16)), (2, vi x)]) dX3_blocks_80 (by decide) rfl ?_
                refine V.iinc C (lc2 := [(5, vi (r + (-1))), (4, vi r), (6, vi (fC h q c8 r.toNat)), (3, vi (fC h q c8 x.toNat)), (0, .ref (ad 0)), (1, .ref (ad 16)), (2, vi x)]) dX3_blocks_82 2 rfl (by decide) rfl ?_
                refine V.goto C 20 dX3_blocks_85 (by decide) ?_
                exact V.sub [0, 1, 3, 4, 5, 6] rfl (ih20 (r + (-1)) r (by omega) (by omega) (by omega) (by rw [show r + -1 + 1 = r by omega, frB_at (by omega), lbM_t h42 h64 (by omega), if_pos rfl]) (by omega))
  exact loop20 _ ((n : Int) - 1) (-1) (by omega) (by omega) (⟨by decide, by omega⟩) ((frB_end (by omega)).symm) (Nat.lt_succ_self _)
set_option maxHeartbeats 4000000 in
set_option maxRecDepth 100000 in
theorem c_m_blockedBy (l : Launch) (D : va_G) (cy : Nat → ClassId) (sa : Nat → Addr) (hfl : l.stackTraces = false) (ad : Nat → Nat) (M : Nat → Int → Int) (h : Int → Bool) (td : Int) (n : Nat) (q : Nat → Nat → Int) (rq : Nat → Nat) (hmi : MI h td n q rq M) (x : Int) (hx : inR x) : Ct l D cy sa yX3_blockedBy cX3_blockedBy 2 (some .int) 8 0 0 (ml cy ad M) [.ref (ad 0), vi x] (fun v ws2 => ∃ y, v = some (vi y) ∧ ((kRule n x) = 0 → y = lb n (rq x.toNat) (fo h q) (fo h q x.toNat)) ∧ ∃ M2, ws2 = ml cy ad M2 ∧ M2 0 0 = (kRule n x) ∧ MI h td n q rq M2) no_x := by
  refine Ct.of (own := RX3) (lc := [(0, .ref (ad 0)), (1, vi x)]) (by decide +kernel) hfl (Nat.le_of_ble_eq_true rfl) rfl rfl ?_
  intro p e s m args below meth c A C hex hnm
  generalize hQ : vx_MQ below (Qo D (fun v ws2 => ∃ y, v = some (vi y) ∧ ((kRule n x) = 0 → y = lb n (rq x.toNat) (fo h q) (fo h q x.toNat)) ∧ ∃ M2, ws2 = ml cy ad M2 ∧ M2 0 0 = (kRule n x) ∧ MI h td n q rq M2) A) (Xo D no_x A) args s 0 0 A = Q
  replace hQ := hQ.symm
  obtain ⟨hch, ⟨htd, td0, td1⟩, ⟨hmn, hn8⟩, hR, hZ, hQ12⟩ := id hmi
  obtain ⟨hxl, hxr⟩ := hx
  refine V.aload_n C dX3_blockedBy_0 0 rfl ?_
  refine V.aload_n C dX3_blockedBy_1 0 rfl ?_
  refine V.iload_n C dX3_blockedBy_2 1 rfl ?_
  refine V.callV C (As := [vi x]) (st := [.ref (ad 0)]) (wr := []) kV_X3_84 (c_m_isRule l D cy sa hfl ad M n hmi.2.2.1.1 hn8 x ⟨by omega, by omega⟩) rfl 0 rfl rfl rfl rfl (Nat.le_of_ble_eq_true rfl) ⟨by decide, by decide⟩ ⟨by decide, by decide⟩ dX3_blockedBy_3 (fun _ _ h => h.elim) (fun v1 w2 r3 => ?_)
  obtain ⟨rfl, hw2⟩ := r3
  rw [hw2]
  show V D 2 A p l e (rmL 8 0 0) s m args below meth c Q 0 0 (ml cy ad M) 6 [(0, .ref (ad 0)), (1, vi x)] [vi (bI (isR n x)), .ref (ad 0)]
  refine V.if_eqB C 13 dX3_blockedBy_6 (by decide) (fun h6 => ?_) (fun h6 => ?_)
  · skip
    refine V.iconst C dX3_blockedBy_13 ?_
    refine V.putf C (v := vi 1) (ty := .int) 0 rfl rfl inX3 tyX3 tyX3_ok nmX3 0 (by decide) fl_X3_56 (fun _ h => h) rfl (by decide +kernel) rfl rfl (Nat.le_of_ble_eq_true rfl) dX3_blockedBy_14 mput_0_0 ?_
    refine V.aload_n C dX3_blockedBy_17 0 rfl ?_
    refine V.callV C (As := []) (st := []) (wr := []) kV_X3_97 (c_m_marks l D cy sa hfl ad (upM M 0 0 1) h td n q rq (hmi.t)) rfl 0 rfl rfl rfl rfl (Nat.le_of_ble_eq_true rfl) ⟨by decide, by decide⟩ ⟨by decide, by decide⟩ dX3_blockedBy_18 (fun _ _ h => h.elim) (fun v4 w5 r6 => ?_)
    obtain ⟨rfl, M1, hw5, fr1, mk1⟩ := r6
    rw [hw5]
    have hmi1 : MI h td n q rq M1 := (hmi.t).same (fun k k2 k12 => fr1 k (by omega) (by omega) (by omega)) (by rw [fr1 0 (by decide) (by decide) (by decide)]) (by rw [fr1 0 (by decide) (by decide) (by decide)])
    have hR1 := hmi1.2.2.2.1
    have ht1 : M1 0 0 = 1 := by rw [fr1 0 (by decide) (by decide) (by decide)]; exact upM_s _ _ _ _
    show V D 2 A p l e (rmL 8 0 0) s m args below meth c Q 0 0 (ml cy ad M1) 21 [(0, .ref (ad 0)), (1, vi x)] []
    refine V.aload_n C dX3_blockedBy_21 0 rfl ?_
    refine V.getf C (v := vi 1) 0 rfl rfl inX3 0 (by decide) fl_X3_56 (fun _ h => h) (by show some _ = some _; rw [ht1]) dX3_blockedBy_22 ?_
    refine V.if_le C 32 dX3_blockedBy_25 (by decide) ⟨by decide, by decide⟩ (fun h25 => (by exact absurd h25 (by decide))) (fun h25 => ?_)
    refine V.iconst C dX3_blockedBy_28 ?_
    refine V.goto C 41 dX3_blockedBy_29 (by decide) ?_
    rw [hQ]
    exact V.iret C dX3_blockedBy_41 (by decide) (by decide) (⟨_, rfl, fun e9 => n10 (kRule_f h6) e9, _, rfl, by rw [ht1, kRule_f h6], hmi1⟩)
  · skip
    obtain ⟨gx0, gx1⟩ := isR_iff.mp h6
    refine V.iconst C dX3_blockedBy_9 ?_
    refine V.goto C 14 dX3_blockedBy_10 (by decide) ?_
    refine V.putf C (v := vi 0) (ty := .int) 0 rfl rfl inX3 tyX3 tyX3_ok nmX3 0 (by decide) fl_X3_56 (fun _ h => h) rfl (by decide +kernel) rfl rfl (Nat.le_of_ble_eq_true rfl) dX3_blockedBy_14 mput_0_0 ?_
    refine V.aload_n C dX3_blockedBy_17 0 rfl ?_
    refine V.callV C (As := []) (st := []) (wr := []) kV_X3_97 (c_m_marks l D cy sa hfl ad (upM M 0 0 0) h td n q rq (hmi.t)) rfl 0 rfl rfl rfl rfl (Nat.le_of_ble_eq_true rfl) ⟨by decide, by decide⟩ ⟨by decide, by decide⟩ dX3_blockedBy_18 (fun _ _ h => h.elim) (fun v7 w8 r9 => ?_)
    obtain ⟨rfl, M1, hw8, fr1, mk1⟩ := r9
    rw [hw8]
    have hmi1 : MI h td n q rq M1 := (hmi.t).same (fun k k2 k12 => fr1 k (by omega) (by omega) (by omega)) (by rw [fr1 0 (by decide) (by decide) (by decide)]) (by rw [fr1 0 (by decide) (by decide) (by decide)])
    have hR1 := hmi1.2.2.2.1
    have ht1 : M1 0 0 = 0 := by rw [fr1 0 (by decide) (by decide) (by decide)]; exact upM_s _ _ _ _
    show V D 2 A p l e (rmL 8 0 0) s m args below meth c Q 0 0 (ml cy ad M1) 21 [(0, .ref (ad 0)), (1, vi x)] []
    refine V.aload_n C dX3_blockedBy_21 0 rfl ?_
    refine V.getf C (v := vi 0) 0 rfl rfl inX3 0 (by decide) fl_X3_56 (fun _ h => h) (by show some _ = some _; rw [ht1]) dX3_blockedBy_22 ?_
    refine V.if_le C 32 dX3_blockedBy_25 (by decide) ⟨by decide, by decide⟩ (fun h25 => ?_) (fun h25 => (by exact absurd h25 (by decide)))
    refine V.aload_n C dX3_blockedBy_32 0 rfl ?_
    refine V.aload_n C dX3_blockedBy_33 0 rfl ?_
    refine V.getf C (v := .ref (ad 10)) 0 rfl rfl inX3 10 (by decide) fl_X3_32 (fun _ h => h) rfl dX3_blockedBy_34 ?_
    refine V.iload_n C dX3_blockedBy_37 1 rfl ?_
    refine V.callV C (As := [.ref (ad 10), vi x]) (st := []) (wr := []) kV_X3_109 (c_m_blocks10 l D cy sa hfl ad M1 h td n q rq (hmi1) (mk1) ((fun i => q i 8)) (fun y y0 y1 => ⟨(hR1 y y0 y1).1.2.2.2.2.2.2.1, (hR1 y y0 y1).2.2.2.2.2.2.2.2.2.1⟩) x (gx0) (gx1)) rfl 0 rfl rfl rfl rfl (Nat.le_of_ble_eq_true rfl) ⟨by decide, by decide⟩ ⟨by decide, by decide⟩ dX3_blockedBy_38 (fun _ _ h => h.elim) (fun v10 w11 r12 => ?_)
    obtain ⟨rfl, hw11⟩ := r12
    rw [hw11]
    show V D 2 A p l e (rmL 8 0 0) s m args below meth c Q 0 0 (ml cy ad M1) 41 [(0, .ref (ad 0)), (1, vi x)] [vi (lb n (rq (x).toNat) (fC h q (fun i => q i 8)) (fC h q (fun i => q i 8) (x).toNat))]
    rw [hQ]
    exact V.iret C dX3_blockedBy_41 (by decide) (by decide) (⟨_, rfl, fun _ => rfl, _, rfl, by rw [ht1, kRule_t h6], hmi1⟩)
set_option maxHeartbeats 4000000 in
set_option maxRecDepth 100000 in
theorem c_m_finish (l : Launch) (D : va_G) (cy : Nat → ClassId) (sa : Nat → Addr) (hfl : l.stackTraces = false) (ad : Nat → Nat) (M : Nat → Int → Int) (h : Int → Bool) (td : Int) (n : Nat) (q : Nat → Nat → Int) (rq : Nat → Nat) (hmi : MI h td n q rq M) (x : Int) (hx : inR x) : Ct l D cy sa yX3_finish cX3_finish 3 (some .int) 8 0 0 (ml cy ad M) [.ref (ad 0), vi x] (fun v ws2 => ∃ y, v = some (vi y) ∧ ((kFin h n q rq x) = 0 → y = td - fo h q x.toNat) ∧ ∃ M2, ws2 = ml cy ad M2 ∧ M2 0 0 = (kFin h n q rq x) ∧ ((kFin h n q rq x) = 0 → MI h td n (qfin q x.toNat td) rq M2) ∧ ((kFin h n q rq x) ≠ 0 → MI h td n q rq M2)) no_x := by
  refine Ct.of (own := RX3) (lc := [(0, .ref (ad 0)), (1, vi x)]) (by decide +kernel) hfl (Nat.le_of_ble_eq_true rfl) rfl rfl ?_
  intro p e s m args below meth c A C hex hnm
  generalize hQ : vx_MQ below (Qo D (fun v ws2 => ∃ y, v = some (vi y) ∧ ((kFin h n q rq x) = 0 → y = td - fo h q x.toNat) ∧ ∃ M2, ws2 = ml cy ad M2 ∧ M2 0 0 = (kFin h n q rq x) ∧ ((kFin h n q rq x) = 0 → MI h td n (qfin q x.toNat td) rq M2) ∧ ((kFin h n q rq x) ≠ 0 → MI h td n q rq M2)) A) (Xo D no_x A) args s 0 0 A = Q
  replace hQ := hQ.symm
  obtain ⟨hch, ⟨htd, td0, td1⟩, ⟨hmn, hn8⟩, hR, hZ, hQ12⟩ := id hmi
  obtain ⟨hxl, hxr⟩ := hx
  refine V.aload_n C dX3_finish_0 0 rfl ?_
  refine V.aload_n C dX3_finish_1 0 rfl ?_
  refine V.iload_n C dX3_finish_2 1 rfl ?_
  refine V.callV C (As := [vi x]) (st := [.ref (ad 0)]) (wr := []) kV_X3_84 (c_m_isRule l D cy sa hfl ad M n hmi.2.2.1.1 hn8 x ⟨by omega, by omega⟩) rfl 0 rfl rfl rfl rfl (Nat.le_of_ble_eq_true rfl) ⟨by decide, by decide⟩ ⟨by decide, by decide⟩ dX3_finish_3 (fun _ _ h => h.elim) (fun v1 w2 r3 => ?_)
  obtain ⟨rfl, hw2⟩ := r3
  rw [hw2]
  show V D 3 A p l e (rmL 8 0 0) s m args below meth c Q 0 0 (ml cy ad M) 6 [(0, .ref (ad 0)), (1, vi x)] [vi (bI (isR n x)), .ref (ad 0)]
  refine V.if_eqB C 13 dX3_finish_6 (by decide) (fun h6 => ?_) (fun h6 => ?_)
  · skip
    refine V.iconst C dX3_finish_13 ?_
    refine V.putf C (v := vi 1) (ty := .int) 0 rfl rfl inX3 tyX3 tyX3_ok nmX3 0 (by decide) fl_X3_56 (fun _ h => h) rfl (by decide +kernel) rfl rfl (Nat.le_of_ble_eq_true rfl) dX3_finish_14 mput_0_0 ?_
    refine V.aload_n C dX3_finish_17 0 rfl ?_
    refine V.getf C (v := vi 1) 0 rfl rfl inX3 0 (by decide) fl_X3_56 (fun _ h => h) (by show some _ = some _; rw [upM_s]) dX3_finish_18 ?_
    refine V.if_le C 26 dX3_finish_21 (by decide) ⟨by decide, by decide⟩ (fun h21 => (by exact absurd h21 (by decide))) (fun h21 => ?_)
    refine V.iconst C dX3_finish_24 ?_
    rw [hQ]
    exact V.iret C dX3_finish_25 (by decide) (by decide) (⟨_, rfl, fun e9 => n10 (show kFin h n q rq x = 1 by rw [kFin, if_neg (by have := isR_f.mp h6; omega)]) e9, _, rfl, by rw [upM_s, show kFin h n q rq x = 1 by rw [kFin, if_neg (by have := isR_f.mp h6; omega)]], fun e9 => n10 (show kFin h n q rq x = 1 by rw [kFin, if_neg (by have := isR_f.mp h6; omega)]) e9, fun _ => hmi.t⟩)
  · skip
    obtain ⟨gx0, gx1⟩ := isR_iff.mp h6
    refine V.iconst C dX3_finish_9 ?_
    refine V.goto C 14 dX3_finish_10 (by decide) ?_
    refine V.putf C (v := vi 0) (ty := .int) 0 rfl rfl inX3 tyX3 tyX3_ok nmX3 0 (by decide) fl_X3_56 (fun _ h => h) rfl (by decide +kernel) rfl rfl (Nat.le_of_ble_eq_true rfl) dX3_finish_14 mput_0_0 ?_
    refine V.aload_n C dX3_finish_17 0 rfl ?_
    refine V.getf C (v := vi 0) 0 rfl rfl inX3 0 (by decide) fl_X3_56 (fun _ h => h) (by show some _ = some _; rw [upM_s]) dX3_finish_18 ?_
    refine V.if_le C 26 dX3_finish_21 (by decide) ⟨by decide, by decide⟩ (fun h21 => ?_) (fun h21 => (by exact absurd h21 (by decide)))
    refine V.aload_n C dX3_finish_26 0 rfl ?_
    refine V.callV C (As := []) (st := []) (wr := []) kV_X3_97 (c_m_marks l D cy sa hfl ad (upM M 0 0 0) h td n q rq (hmi.t)) rfl 0 rfl rfl rfl rfl (Nat.le_of_ble_eq_true rfl) ⟨by decide, by decide⟩ ⟨by decide, by decide⟩ dX3_finish_27 (fun _ _ h => h.elim) (fun v4 w5 r6 => ?_)
    obtain ⟨rfl, M1, hw5, fr1, mk1⟩ := r6
    rw [hw5]
    have hmi1 : MI h td n q rq M1 := (hmi.t).same (fun k k2 k12 => fr1 k (by omega) (by omega) (by omega)) (by rw [fr1 0 (by decide) (by decide) (by decide)]) (by rw [fr1 0 (by decide) (by decide) (by decide)])
    have hR1 := hmi1.2.2.2.1
    have ht1 : M1 0 0 = 0 := by rw [fr1 0 (by decide) (by decide) (by decide)]; exact upM_s _ _ _ _
    show V D 3 A p l e (rmL 8 0 0) s m args below meth c Q 0 0 (ml cy ad M1) 30 [(0, .ref (ad 0)), (1, vi x)] []
    have p8 := (hR x gx0 gx1).2.2.2.2.2.2.2.2.2.1
    have fr9 := fo_rng h q x.toNat
    refine V.aload_n C dX3_finish_30 0 rfl ?_
    refine V.iload_n C dX3_finish_31 1 rfl ?_
    refine V.aload_n C dX3_finish_32 0 rfl ?_
    refine V.getf C (v := .ref (ad 10)) 0 rfl rfl inX3 10 (by decide) fl_X3_32 (fun _ h => h) rfl dX3_finish_33 ?_
    refine V.iload_n C dX3_finish_36 1 rfl ?_
    refine V.iald C (v := q (x).toNat 8) 8 rfl (by omega) (by omega) (by decide) (ld_ar (by omega) ((hR1 _ (gx0) (gx1)).1.2.2.2.2.2.2.1)) dX3_finish_37 ?_
    refine V.callV C (As := [vi x, vi (q (x).toNat 8)]) (st := []) (wr := []) kV_X3_100 (c_m_dueAt l D cy sa hfl ad M1 h td n q rq (hmi1) (mk1) x (gx0) (gx1) (q (x).toNat 8) (p8.1) ⟨by omega, by omega⟩) rfl 0 rfl rfl rfl rfl (Nat.le_of_ble_eq_true rfl) ⟨by decide, by decide⟩ ⟨by decide, by decide⟩ dX3_finish_38 (fun _ _ h => h.elim) (fun v7 w8 r9 => ?_)
    obtain ⟨rfl, hw8⟩ := r9
    rw [hw8]
    show V D 3 A p l e (rmL 8 0 0) s m args below meth c Q 0 0 (ml cy ad M1) 41 [(0, .ref (ad 0)), (1, vi x)] [vi (fo h q x.toNat)]
    refine V.istore_n C (lc2 := [(2, vi (fo h q x.toNat)), (0, .ref (ad 0)), (1, vi x)]) dX3_finish_41 (by decide) rfl ?_
    refine V.aload_n C dX3_finish_42 1 rfl ?_
    refine V.iload_n C dX3_finish_43 0 rfl ?_
    refine V.iconst C dX3_finish_44 ?_
    refine V.icmp_ne C 52 dX3_finish_45 (by decide) ⟨by omega, by omega⟩ ⟨by decide, by decide⟩ (fun h45 => ?_) (fun h45 => ?_)
    · skip
      refine V.aload_n C dX3_finish_52 1 rfl ?_
      refine V.aload_n C dX3_finish_53 1 rfl ?_
      refine V.getf C (v := .ref (ad 10)) 0 rfl rfl inX3 10 (by decide) fl_X3_32 (fun _ h => h) rfl dX3_finish_54 ?_
      refine V.iload_n C dX3_finish_57 2 rfl ?_
      refine V.callV C (As := [.ref (ad 10), vi x]) (st := [.ref (ad 0)]) (wr := []) kV_X3_109 (c_m_blocks10 l D cy sa hfl ad M1 h td n q rq (hmi1) (mk1) ((fun i => q i 8)) (fun y y0 y1 => ⟨(hR1 y y0 y1).1.2.2.2.2.2.2.1, (hR1 y y0 y1).2.2.2.2.2.2.2.2.2.1⟩) x (gx0) (gx1)) rfl 0 rfl rfl rfl rfl (Nat.le_of_ble_eq_true rfl) ⟨by decide, by decide⟩ ⟨by decide, by decide⟩ dX3_finish_58 (fun _ _ h => h.elim) (fun v10 w11 r12 => ?_)
      obtain ⟨rfl, hw11⟩ := r12
      rw [hw11]
      show V D 3 A p l e (rmL 8 0 0) s m args below meth c Q 0 0 (ml cy ad M1) 61 [(2, vi (fo h q x.toNat)), (0, .ref (ad 0)), (1, vi x)] [vi (lb n (rq (x).toNat) (fC h q (fun i => q i 8)) (fC h q (fun i => q i 8) (x).toNat)), .ref (ad 0)]
      have lr9 := lb_rng (n := n) (rb := rq x.toNat) (f := fo h q) (fb := fo h q x.toNat)
      rw [show lb n (rq (x).toNat) (fC h q (fun i => q i 8)) (fC h q (fun i => q i 8) (x).toNat) = lb n (rq x.toNat) (fo h q) (fo h q x.toNat) from rfl]
      refine V.iconst C dX3_finish_61 ?_
      refine V.icmp_eq C 69 dX3_finish_62 (by decide) ⟨by omega, by omega⟩ ⟨by decide, by decide⟩ (fun h62 => ?_) (fun h62 => ?_)
      · skip
        refine V.iconst C dX3_finish_69 ?_
        refine V.putf C (v := vi 0) (ty := .int) 0 rfl rfl inX3 tyX3 tyX3_ok nmX3 0 (by decide) fl_X3_56 (fun _ h => h) rfl (by decide +kernel) rfl rfl (Nat.le_of_ble_eq_true rfl) dX3_finish_70 mput_0_0 ?_
        refine V.aload_n C dX3_finish_73 1 rfl ?_
        refine V.getf C (v := vi 0) 0 rfl rfl inX3 0 (by decide) fl_X3_56 (fun _ h => h) (by show some _ = some _; rw [upM_s]) dX3_finish_74 ?_
        refine V.if_le C 82 dX3_finish_77 (by decide) ⟨by decide, by decide⟩ (fun h77 => ?_) (fun h77 => (by exact absurd h77 (by decide)))
        refine V.aload_n C dX3_finish_82 1 rfl ?_
        refine V.getf C (v := .ref (ad 10)) 0 rfl rfl inX3 10 (by decide) fl_X3_32 (fun _ h => h) rfl dX3_finish_83 ?_
        refine V.iload_n C dX3_finish_86 2 rfl ?_
        refine V.dup2 C dX3_finish_87 rfl rfl ?_
        refine V.iald C (v := q (x).toNat 8) 8 rfl (by omega) (by omega) (by decide) (ld_ar (by omega) (by rw [upM_n (Or.inl (by decide))]; exact (hR1 _ (gx0) (gx1)).1.2.2.2.2.2.2.1)) dX3_finish_88 ?_
        refine V.iconst C dX3_finish_89 ?_
        refine V.iadd C dX3_finish_90 ?_
        refine V.iast C 8 rfl (by omega) (by omega) (by decide) dX3_finish_91 (mput_10 (by omega)) ?_
        refine V.aload_n C dX3_finish_92 1 rfl ?_
        refine V.getf C (v := .ref (ad 11)) 0 rfl rfl inX3 11 (by decide) fl_X3_35 (fun _ h => h) rfl dX3_finish_93 ?_
        refine V.iload_n C dX3_finish_96 2 rfl ?_
        refine V.aload_n C dX3_finish_97 1 rfl ?_
        refine V.getf C (v := vi td) 0 rfl rfl inX3 1 (by decide) fl_X3_81 (fun _ h => h) (by show some _ = some _; rw [upM_n (Or.inl (by decide)), upM_n (Or.inr (by decide)), hmi1.2.1.1]) dX3_finish_98 ?_
        refine V.iast C 9 rfl (by omega) (by omega) (by decide) dX3_finish_101 (mput_11 (by omega)) ?_
        refine V.aload_n C dX3_finish_102 1 rfl ?_
        refine V.getf C (v := vi td) 0 rfl rfl inX3 1 (by decide) fl_X3_81 (fun _ h => h) (by show some _ = some _; rw [upM_n (Or.inl (by decide)), upM_n (Or.inl (by decide)), upM_n (Or.inr (by decide)), hmi1.2.1.1]) dX3_finish_103 ?_
        refine V.iload_n C dX3_finish_106 0 rfl ?_
        refine V.isub C dX3_finish_107 ?_
        rw [hQ]
        exact V.iret C dX3_finish_108 (by decide) (by decide) (⟨_, rfl, fun _ => rfl, _, rfl, by rw [upM_n (Or.inl (by decide)), upM_n (Or.inl (by decide)), upM_s, show kFin h n q rq x = 0 by rw [kFin, if_pos ⟨gx0, gx1⟩, if_neg h45, if_pos h62]], fun _ => hmi1.t.fin gx0 gx1 (by have := dk_lt h45 (by decide) p8.1; have := ct_rng (dueR h (q x.toNat)) 0 720 (by decide); omega), fun e9 => absurd (show kFin h n q rq x = 0 by rw [kFin, if_pos ⟨gx0, gx1⟩, if_neg h45, if_pos h62]) e9⟩)
      · skip
        refine V.iconst C dX3_finish_65 ?_
        refine V.goto C 70 dX3_finish_66 (by decide) ?_
        refine V.putf C (v := vi 3) (ty := .int) 0 rfl rfl inX3 tyX3 tyX3_ok nmX3 0 (by decide) fl_X3_56 (fun _ h => h) rfl (by decide +kernel) rfl rfl (Nat.le_of_ble_eq_true rfl) dX3_finish_70 mput_0_0 ?_
        refine V.aload_n C dX3_finish_73 1 rfl ?_
        refine V.getf C (v := vi 3) 0 rfl rfl inX3 0 (by decide) fl_X3_56 (fun _ h => h) (by show some _ = some _; rw [upM_s]) dX3_finish_74 ?_
        refine V.if_le C 82 dX3_finish_77 (by decide) ⟨by decide, by decide⟩ (fun h77 => (by exact absurd h77 (by decide))) (fun h77 => ?_)
        refine V.iconst C dX3_finish_80 ?_
        rw [hQ]
        exact V.iret C dX3_finish_81 (by decide) (by decide) (⟨_, rfl, fun e9 => n30 (show kFin h n q rq x = 3 by rw [kFin, if_pos ⟨gx0, gx1⟩, if_neg h45, if_neg h62]) e9, _, rfl, by rw [upM_s, show kFin h n q rq x = 3 by rw [kFin, if_pos ⟨gx0, gx1⟩, if_neg h45, if_neg h62]], fun e9 => n30 (show kFin h n q rq x = 3 by rw [kFin, if_pos ⟨gx0, gx1⟩, if_neg h45, if_neg h62]) e9, fun _ => hmi1.t⟩)
    · skip
      refine V.iconst C dX3_finish_48 ?_
      refine V.goto C 70 dX3_finish_49 (by decide) ?_
      refine V.putf C (v := vi 2) (ty := .int) 0 rfl rfl inX3 tyX3 tyX3_ok nmX3 0 (by decide) fl_X3_56 (fun _ h => h) rfl (by decide +kernel) rfl rfl (Nat.le_of_ble_eq_true rfl) dX3_finish_70 mput_0_0 ?_
      refine V.aload_n C dX3_finish_73 1 rfl ?_
      refine V.getf C (v := vi 2) 0 rfl rfl inX3 0 (by decide) fl_X3_56 (fun _ h => h) (by show some _ = some _; rw [upM_s]) dX3_finish_74 ?_
      refine V.if_le C 82 dX3_finish_77 (by decide) ⟨by decide, by decide⟩ (fun h77 => (by exact absurd h77 (by decide))) (fun h77 => ?_)
      refine V.iconst C dX3_finish_80 ?_
      rw [hQ]
      exact V.iret C dX3_finish_81 (by decide) (by decide) (⟨_, rfl, fun e9 => n20 (show kFin h n q rq x = 2 by rw [kFin, if_pos ⟨gx0, gx1⟩, if_pos h45]) e9, _, rfl, by rw [upM_s, show kFin h n q rq x = 2 by rw [kFin, if_pos ⟨gx0, gx1⟩, if_pos h45]], fun e9 => n20 (show kFin h n q rq x = 2 by rw [kFin, if_pos ⟨gx0, gx1⟩, if_pos h45]) e9, fun _ => hmi1.t⟩)
set_option maxHeartbeats 4000000 in
set_option maxRecDepth 100000 in
theorem c_m_comesNext (l : Launch) (D : va_G) (cy : Nat → ClassId) (sa : Nat → Addr) (hfl : l.stackTraces = false) (ad : Nat → Nat) (M : Nat → Int → Int) (h : Int → Bool) (td : Int) (n : Nat) (q : Nat → Nat → Int) (rq : Nat → Nat) (hmi : MI h td n q rq M) (hmk : MK h n q M) (c8 : Nat → Int) (hc8 : ∀ y : Int, 0 ≤ y → y < (n : Int) → M 16 y = c8 y.toNat ∧ 0 ≤ c8 y.toNat ∧ c8 y.toNat ≤ 720) (x : Int) (x0 : 0 ≤ x) (x1 : x < 720) : Ct l D cy sa yX3_comesNext cX3_comesNext 7 (some .int) 7 0 0 (ml cy ad M) [.ref (ad 0), vi x] (fun v ws2 => v = some (vi (nxt n rq x (fC h q c8))) ∧ ws2 = ml cy ad M) no_x := by
  refine Ct.of (own := RX3) (lc := [(0, .ref (ad 0)), (1, vi x)]) (by decide +kernel) hfl (Nat.le_of_ble_eq_true rfl) rfl rfl ?_
  intro p e s m args below meth c A C hex hnm
  generalize hQ : vx_MQ below (Qo D (fun v ws2 => v = some (vi (nxt n rq x (fC h q c8))) ∧ ws2 = ml cy ad M) A) (Xo D no_x A) args s 0 0 A = Q
  replace hQ := hQ.symm
  obtain ⟨hch, ⟨htd, td0, td1⟩, ⟨hmn, hn8⟩, hR, hZ, hQ12⟩ := id hmi
  refine V.iconst C dX3_comesNext_0 ?_
  refine V.istore_n C (lc2 := [(2, vi (-1)), (0, .ref (ad 0)), (1, vi x)]) dX3_comesNext_1 (by decide) rfl ?_
  refine V.iconst C dX3_comesNext_2 ?_
  refine V.istore_n C (lc2 := [(3, vi (-1)), (2, vi (-1)), (0, .ref (ad 0)), (1, vi x)]) dX3_comesNext_3 (by decide) rfl ?_
  refine V.iconst C dX3_comesNext_4 ?_
  refine V.istore C (lc2 := [(4, vi 0), (3, vi (-1)), (2, vi (-1)), (0, .ref (ad 0)), (1, vi x)]) dX3_comesNext_5 (by decide) rfl ?_
  have loop7 : ∀ (fz : Nat) (r : Int) (b : Int) (t : Int) (g : Int), (0 ≤ r) → (r ≤ (n : Int)) → (nioF (fC h q c8) (fun i => lb n (rq i) (fC h q c8) (fC h q c8 i)) x r.toNat = (t, g)) → ((t = -1 ∧ g = x + 1) ∨ (0 ≤ t ∧ b = g)) → (t < r ∧ 0 ≤ g ∧ g ≤ x + 1) → (-1 ≤ b ∧ b < 720) → (((n : Int) - r).toNat < fz) → V D 7 A p l e (rmL 7 0 0) s m args below meth c Q 0 0 (ml cy ad M) 7 [(4, vi r), (3, vi b), (2, vi t), (0, .ref (ad 0)), (1, vi x)] [] := by
    intro fz
    induction fz with
    | zero => intro r b t g e0 e1 e2 e3 e4 e5 hf; exact absurd hf (Nat.not_lt_zero _)
    | succ fz ih7 =>
      intro r b t g e0 e1 e2 e3 e4 e5 hf7
      refine V.iload C dX3_comesNext_7 0 rfl ?_
      refine V.aload_n C dX3_comesNext_9 3 rfl ?_
      refine V.getf C (v := vi (n : Int)) 0 rfl rfl inX3 3 (by decide) fl_X3_64 (fun _ h => h) (by show some _ = some _; rw [hmi.2.2.1.1]) dX3_comesNext_10 ?_
      refine V.icmp_ge C 105 dX3_comesNext_13 (by decide) ⟨by omega, by omega⟩ ⟨by omega, by omega⟩ (fun h13 => ?_) (fun h13 => ?_)
      · skip
        refine V.iload_n C dX3_comesNext_105 2 rfl ?_
        rw [hQ]
        exact V.iret C dX3_comesNext_106 (by decide) (by decide) (⟨ri (by unfold nxt; rw [show nioF (fC h q c8) (fun i => lb n (rq i) (fC h q c8) (fC h q c8 i)) x n = (t, g) by rw [← e2, show r.toNat = n by omega]]), rfl⟩)
      · skip
        have cr := hc8 r e0 (by omega)
        have fr9 := fC_rng h q c8 r.toNat
        refine V.aload_n C dX3_comesNext_16 3 rfl ?_
        refine V.iload C dX3_comesNext_17 0 rfl ?_
        refine V.aload_n C dX3_comesNext_19 3 rfl ?_
        refine V.getf C (v := .ref (ad 16)) 0 rfl rfl inX3 16 (by decide) fl_X3_50 (fun _ h => h) rfl dX3_comesNext_20 ?_
        refine V.iload C dX3_comesNext_23 0 rfl ?_
        refine V.iald C (v := c8 r.toNat) 14 rfl (by omega) (by omega) (by decide) (ld_ar (by omega) cr.1) dX3_comesNext_25 ?_
        refine V.callV C (As := [vi r, vi (c8 r.toNat)]) (st := []) (wr := []) kV_X3_100 (c_m_dueAt l D cy sa hfl ad M h td n q rq (hmi) (hmk) r (e0) (by omega) (c8 r.toNat) (cr.2.1) ⟨by omega, by omega⟩) rfl 0 rfl rfl rfl rfl (Nat.le_of_ble_eq_true rfl) ⟨by decide, by decide⟩ ⟨by decide, by decide⟩ dX3_comesNext_26 (fun _ _ h => h.elim) (fun v1 w2 r3 => ?_)
        obtain ⟨rfl, hw2⟩ := r3
        rw [hw2]
        show V D 7 A p l e (rmL 7 0 0) s m args below meth c Q 0 0 (ml cy ad M) 29 [(4, vi r), (3, vi b), (2, vi t), (0, .ref (ad 0)), (1, vi x)] [vi (fC h q c8 r.toNat)]
        refine V.istore C (lc2 := [(5, vi (fC h q c8 r.toNat)), (4, vi r), (3, vi b), (2, vi t), (0, .ref (ad 0)), (1, vi x)]) dX3_comesNext_29 (by decide) rfl ?_
        refine V.iload C dX3_comesNext_31 0 rfl ?_
        refine V.iconst C dX3_comesNext_33 ?_
        refine V.icmp_eq C 72 dX3_comesNext_34 (by decide) ⟨by omega, by omega⟩ ⟨by decide, by decide⟩ (fun h34 => ?_) (fun h34 => ?_)
        · skip
          refine V.iconst C dX3_comesNext_72 ?_
          refine V.istore C (lc2 := [(6, vi 0), (5, vi (fC h q c8 r.toNat)), (4, vi r), (3, vi b), (2, vi t), (0, .ref (ad 0)), (1, vi x)]) dX3_comesNext_73 (by decide) rfl ?_
          refine V.iload C dX3_comesNext_75 0 rfl ?_
          refine V.if_eq C 85 dX3_comesNext_77 (by decide) ⟨by decide, by decide⟩ (fun h77 => ?_) (fun h77 => (by exact absurd h77 (by decide)))
          refine V.iload_n C dX3_comesNext_85 4 rfl ?_
          refine V.istore_n C (lc2 := [(2, vi t), (6, vi 0), (5, vi (fC h q c8 r.toNat)), (4, vi r), (3, vi b), (0, .ref (ad 0)), (1, vi x)]) dX3_comesNext_86 (by decide) rfl ?_
          refine V.iload C dX3_comesNext_87 1 rfl ?_
          refine V.if_eq C 97 dX3_comesNext_89 (by decide) ⟨by decide, by decide⟩ (fun h89 => ?_) (fun h89 => (by exact absurd h89 (by decide)))
          refine V.iload_n C dX3_comesNext_97 4 rfl ?_
          refine V.istore_n C (lc2 := [(3, vi b), (2, vi t), (6, vi 0), (5, vi (fC h q c8 r.toNat)), (4, vi r), (0, .ref (ad 0)), (1, vi x)]) dX3_comesNext_98 (by decide) rfl ?_
          refine V.iinc C (lc2 := [(4, vi (r + 1)), (3, vi b), (2, vi t), (6, vi 0), (5, vi (fC h q c8 r.toNat)), (0, .ref (ad 0)), (1, vi x)]) dX3_comesNext_99 4 rfl (by decide) rfl ?_
          refine V.goto C 7 dX3_comesNext_102 (by decide) ?_
          exact V.sub [0, 1, 2, 5, 6] rfl (ih7 (r + 1) b t g (by omega) (by omega) (nioM_f e0 e2 (Or.inl h34)) (by omega) (by omega) (by omega) (by omega))
        · skip
          refine V.iload C dX3_comesNext_37 0 rfl ?_
          refine V.iload_n C dX3_comesNext_39 5 rfl ?_
          refine V.icmp_gt C 72 dX3_comesNext_40 (by decide) ⟨by omega, by omega⟩ ⟨by omega, by omega⟩ (fun h40 => ?_) (fun h40 => ?_)
          · skip
            refine V.iconst C dX3_comesNext_72 ?_
            refine V.istore C (lc2 := [(6, vi 0), (5, vi (fC h q c8 r.toNat)), (4, vi r), (3, vi b), (2, vi t), (0, .ref (ad 0)), (1, vi x)]) dX3_comesNext_73 (by decide) rfl ?_
            refine V.iload C dX3_comesNext_75 0 rfl ?_
            refine V.if_eq C 85 dX3_comesNext_77 (by decide) ⟨by decide, by decide⟩ (fun h77 => ?_) (fun h77 => (by exact absurd h77 (by decide)))
            refine V.iload_n C dX3_comesNext_85 4 rfl ?_
            refine V.istore_n C (lc2 := [(2, vi t), (6, vi 0), (5, vi (fC h q c8 r.toNat)), (4, vi r), (3, vi b), (0, .ref (ad 0)), (1, vi x)]) dX3_comesNext_86 (by decide) rfl ?_
            refine V.iload C dX3_comesNext_87 1 rfl ?_
            refine V.if_eq C 97 dX3_comesNext_89 (by decide) ⟨by decide, by decide⟩ (fun h89 => ?_) (fun h89 => (by exact absurd h89 (by decide)))
            refine V.iload_n C dX3_comesNext_97 4 rfl ?_
            refine V.istore_n C (lc2 := [(3, vi b), (2, vi t), (6, vi 0), (5, vi (fC h q c8 r.toNat)), (4, vi r), (0, .ref (ad 0)), (1, vi x)]) dX3_comesNext_98 (by decide) rfl ?_
            refine V.iinc C (lc2 := [(4, vi (r + 1)), (3, vi b), (2, vi t), (6, vi 0), (5, vi (fC h q c8 r.toNat)), (0, .ref (ad 0)), (1, vi x)]) dX3_comesNext_99 4 rfl (by decide) rfl ?_
            refine V.goto C 7 dX3_comesNext_102 (by decide) ?_
            exact V.sub [0, 1, 2, 5, 6] rfl (ih7 (r + 1) b t g (by omega) (by omega) (nioM_f e0 e2 (Or.inr (Or.inl (by omega)))) (by omega) (by omega) (by omega) (by omega))
          · skip
            refine V.aload_n C dX3_comesNext_43 4 rfl ?_
            refine V.aload_n C dX3_comesNext_44 4 rfl ?_
            refine V.getf C (v := .ref (ad 16)) 0 rfl rfl inX3 16 (by decide) fl_X3_50 (fun _ h => h) rfl dX3_comesNext_45 ?_
            refine V.iload C dX3_comesNext_48 1 rfl ?_
            refine V.callV C (As := [.ref (ad 16), vi r]) (st := []) (wr := []) kV_X3_109 (c_m_blocks16 l D cy sa hfl ad M h td n q rq (hmi) (hmk) (c8) (hc8) r (e0) (by omega)) rfl 0 rfl rfl rfl rfl (Nat.le_of_ble_eq_true rfl) ⟨by decide, by decide⟩ ⟨by decide, by decide⟩ dX3_comesNext_50 (fun _ _ h => h.elim) (fun v4 w5 r6 => ?_)
            obtain ⟨rfl, hw5⟩ := r6
            rw [hw5]
            show V D 7 A p l e (rmL 7 0 0) s m args below meth c Q 0 0 (ml cy ad M) 53 [(5, vi (fC h q c8 r.toNat)), (4, vi r), (3, vi b), (2, vi t), (0, .ref (ad 0)), (1, vi x)] [vi (lb n (rq (r).toNat) (fC h q c8) (fC h q c8 (r).toNat))]
            have lr9 := lb_rng (n := n) (rb := rq (r).toNat) (f := fC h q c8) (fb := fC h q c8 (r).toNat)
            refine V.iconst C dX3_comesNext_53 ?_
            refine V.icmp_ne C 72 dX3_comesNext_54 (by decide) ⟨by omega, by omega⟩ ⟨by decide, by decide⟩ (fun h54 => ?_) (fun h54 => ?_)
            · skip
              refine V.iconst C dX3_comesNext_72 ?_
              refine V.istore C (lc2 := [(6, vi 0), (5, vi (fC h q c8 r.toNat)), (4, vi r), (3, vi b), (2, vi t), (0, .ref (ad 0)), (1, vi x)]) dX3_comesNext_73 (by decide) rfl ?_
              refine V.iload C dX3_comesNext_75 0 rfl ?_
              refine V.if_eq C 85 dX3_comesNext_77 (by decide) ⟨by decide, by decide⟩ (fun h77 => ?_) (fun h77 => (by exact absurd h77 (by decide)))
              refine V.iload_n C dX3_comesNext_85 4 rfl ?_
              refine V.istore_n C (lc2 := [(2, vi t), (6, vi 0), (5, vi (fC h q c8 r.toNat)), (4, vi r), (3, vi b), (0, .ref (ad 0)), (1, vi x)]) dX3_comesNext_86 (by decide) rfl ?_
              refine V.iload C dX3_comesNext_87 1 rfl ?_
              refine V.if_eq C 97 dX3_comesNext_89 (by decide) ⟨by decide, by decide⟩ (fun h89 => ?_) (fun h89 => (by exact absurd h89 (by decide)))
              refine V.iload_n C dX3_comesNext_97 4 rfl ?_
              refine V.istore_n C (lc2 := [(3, vi b), (2, vi t), (6, vi 0), (5, vi (fC h q c8 r.toNat)), (4, vi r), (0, .ref (ad 0)), (1, vi x)]) dX3_comesNext_98 (by decide) rfl ?_
              refine V.iinc C (lc2 := [(4, vi (r + 1)), (3, vi b), (2, vi t), (6, vi 0), (5, vi (fC h q c8 r.toNat)), (0, .ref (ad 0)), (1, vi x)]) dX3_comesNext_99 4 rfl (by decide) rfl ?_
              refine V.goto C 7 dX3_comesNext_102 (by decide) ?_
              exact V.sub [0, 1, 2, 5, 6] rfl (ih7 (r + 1) b t g (by omega) (by omega) (nioM_f e0 e2 (Or.inr (Or.inr h54))) (by omega) (by omega) (by omega) (by omega))
            · skip
              refine V.iload_n C dX3_comesNext_57 3 rfl ?_
              refine V.iconst C dX3_comesNext_58 ?_
              refine V.icmp_eq C 68 dX3_comesNext_59 (by decide) ⟨by omega, by omega⟩ ⟨by decide, by decide⟩ (fun h59 => ?_) (fun h59 => ?_)
              · skip
                refine V.iconst C dX3_comesNext_68 ?_
                refine V.goto C 73 dX3_comesNext_69 (by decide) ?_
                refine V.istore C (lc2 := [(6, vi 1), (5, vi (fC h q c8 r.toNat)), (4, vi r), (3, vi b), (2, vi t), (0, .ref (ad 0)), (1, vi x)]) dX3_comesNext_73 (by decide) rfl ?_
                refine V.iload C dX3_comesNext_75 0 rfl ?_
                refine V.if_eq C 85 dX3_comesNext_77 (by decide) ⟨by decide, by decide⟩ (fun h77 => (by exact absurd h77 (by decide))) (fun h77 => ?_)
                refine V.iload C dX3_comesNext_80 2 rfl ?_
                refine V.goto C 86 dX3_comesNext_82 (by decide) ?_
                refine V.istore_n C (lc2 := [(2, vi r), (6, vi 1), (5, vi (fC h q c8 r.toNat)), (4, vi r), (3, vi b), (0, .ref (ad 0)), (1, vi x)]) dX3_comesNext_86 (by decide) rfl ?_
                refine V.iload C dX3_comesNext_87 1 rfl ?_
                refine V.if_eq C 97 dX3_comesNext_89 (by decide) ⟨by decide, by decide⟩ (fun h89 => (by exact absurd h89 (by decide))) (fun h89 => ?_)
                refine V.iload C dX3_comesNext_92 2 rfl ?_
                refine V.goto C 98 dX3_comesNext_94 (by decide) ?_
                refine V.istore_n C (lc2 := [(3, vi (fC h q c8 r.toNat)), (2, vi r), (6, vi 1), (5, vi (fC h q c8 r.toNat)), (4, vi r), (0, .ref (ad 0)), (1, vi x)]) dX3_comesNext_98 (by decide) rfl ?_
                refine V.iinc C (lc2 := [(4, vi (r + 1)), (3, vi (fC h q c8 r.toNat)), (2, vi r), (6, vi 1), (5, vi (fC h q c8 r.toNat)), (0, .ref (ad 0)), (1, vi x)]) dX3_comesNext_99 4 rfl (by decide) rfl ?_
                refine V.goto C 7 dX3_comesNext_102 (by decide) ?_
                exact V.sub [0, 1, 2, 5, 6] rfl (ih7 (r + 1) (fC h q c8 r.toNat) r (fC h q c8 r.toNat) (by omega) (by omega) (nioM_t e0 e2 h34 (by omega) h54) (by omega) (by omega) (by omega) (by omega))
              · skip
                refine V.iload C dX3_comesNext_62 0 rfl ?_
                refine V.iload_n C dX3_comesNext_64 2 rfl ?_
                refine V.icmp_ge C 72 dX3_comesNext_65 (by decide) ⟨by omega, by omega⟩ ⟨by omega, by omega⟩ (fun h65 => ?_) (fun h65 => ?_)
                · skip
                  refine V.iconst C dX3_comesNext_72 ?_
                  refine V.istore C (lc2 := [(6, vi 0), (5, vi (fC h q c8 r.toNat)), (4, vi r), (3, vi b), (2, vi t), (0, .ref (ad 0)), (1, vi x)]) dX3_comesNext_73 (by decide) rfl ?_
                  refine V.iload C dX3_comesNext_75 0 rfl ?_
                  refine V.if_eq C 85 dX3_comesNext_77 (by decide) ⟨by decide, by decide⟩ (fun h77 => ?_) (fun h77 => (by exact absurd h77 (by decide)))
                  refine V.iload_n C dX3_comesNext_85 4 rfl ?_
                  refine V.istore_n C (lc2 := [(2, vi t), (6, vi 0), (5, vi (fC h q c8 r.toNat)), (4, vi r), (3, vi b), (0, .ref (ad 0)), (1, vi x)]) dX3_comesNext_86 (by decide) rfl ?_
                  refine V.iload C dX3_comesNext_87 1 rfl ?_
                  refine V.if_eq C 97 dX3_comesNext_89 (by decide) ⟨by decide, by decide⟩ (fun h89 => ?_) (fun h89 => (by exact absurd h89 (by decide)))
                  refine V.iload_n C dX3_comesNext_97 4 rfl ?_
                  refine V.istore_n C (lc2 := [(3, vi b), (2, vi t), (6, vi 0), (5, vi (fC h q c8 r.toNat)), (4, vi r), (0, .ref (ad 0)), (1, vi x)]) dX3_comesNext_98 (by decide) rfl ?_
                  refine V.iinc C (lc2 := [(4, vi (r + 1)), (3, vi b), (2, vi t), (6, vi 0), (5, vi (fC h q c8 r.toNat)), (0, .ref (ad 0)), (1, vi x)]) dX3_comesNext_99 4 rfl (by decide) rfl ?_
                  refine V.goto C 7 dX3_comesNext_102 (by decide) ?_
                  exact V.sub [0, 1, 2, 5, 6] rfl (ih7 (r + 1) b t g (by omega) (by omega) (nioM_f e0 e2 (Or.inr (Or.inl (by omega)))) (by omega) (by omega) (by omega) (by omega))
                · skip
                  refine V.iconst C dX3_comesNext_68 ?_
                  refine V.goto C 73 dX3_comesNext_69 (by decide) ?_
                  refine V.istore C (lc2 := [(6, vi 1), (5, vi (fC h q c8 r.toNat)), (4, vi r), (3, vi b), (2, vi t), (0, .ref (ad 0)), (1, vi x)]) dX3_comesNext_73 (by decide) rfl ?_
                  refine V.iload C dX3_comesNext_75 0 rfl ?_
                  refine V.if_eq C 85 dX3_comesNext_77 (by decide) ⟨by decide, by decide⟩ (fun h77 => (by exact absurd h77 (by decide))) (fun h77 => ?_)
                  refine V.iload C dX3_comesNext_80 2 rfl ?_
                  refine V.goto C 86 dX3_comesNext_82 (by decide) ?_
                  refine V.istore_n C (lc2 := [(2, vi r), (6, vi 1), (5, vi (fC h q c8 r.toNat)), (4, vi r), (3, vi b), (0, .ref (ad 0)), (1, vi x)]) dX3_comesNext_86 (by decide) rfl ?_
                  refine V.iload C dX3_comesNext_87 1 rfl ?_
                  refine V.if_eq C 97 dX3_comesNext_89 (by decide) ⟨by decide, by decide⟩ (fun h89 => (by exact absurd h89 (by decide))) (fun h89 => ?_)
                  refine V.iload C dX3_comesNext_92 2 rfl ?_
                  refine V.goto C 98 dX3_comesNext_94 (by decide) ?_
                  refine V.istore_n C (lc2 := [(3, vi (fC h q c8 r.toNat)), (2, vi r), (6, vi 1), (5, vi (fC h q c8 r.toNat)), (4, vi r), (0, .ref (ad 0)), (1, vi x)]) dX3_comesNext_98 (by decide) rfl ?_
                  refine V.iinc C (lc2 := [(4, vi (r + 1)), (3, vi (fC h q c8 r.toNat)), (2, vi r), (6, vi 1), (5, vi (fC h q c8 r.toNat)), (0, .ref (ad 0)), (1, vi x)]) dX3_comesNext_99 4 rfl (by decide) rfl ?_
                  refine V.goto C 7 dX3_comesNext_102 (by decide) ?_
                  exact V.sub [0, 1, 2, 5, 6] rfl (ih7 (r + 1) (fC h q c8 r.toNat) r (fC h q c8 r.toNat) (by omega) (by omega) (nioM_t e0 e2 h34 (by omega) h54) (by omega) (by omega) (by omega) (by omega))
  exact loop7 _ 0 (-1) (-1) (x + 1) (by omega) (by omega) rfl (Or.inl ⟨rfl, rfl⟩) (⟨by decide, by omega, by omega⟩) (⟨by decide, by decide⟩) (Nat.lt_succ_self _)
