theorem nio_t {f bl : Nat → Int} {x g ch : Int} {r : Nat} (e : nioF f bl x r = (ch, g)) (h1 : ¬ f r = -1) (h2 : f r < g) (h3 : bl r = -1) : nioF f bl x (r + 1) = ((r : Int), f r) := by
  simp only [nioF, e]
  rw [if_pos ⟨h1, h2, h3⟩]
theorem nio_f {f bl : Nat → Int} {x g ch : Int} {r : Nat} (e : nioF f bl x r = (ch, g)) (h : f r = -1 ∨ g ≤ f r ∨ ¬ bl r = -1) : nioF f bl x (r + 1) = (ch, g) := by
  simp only [nioF, e]
  rw [if_neg (fun z => by
    rcases h with h | h | h
    · exact z.1 h
    · exact absurd z.2.1 (by omega)
    · exact h z.2.2)]
set_option maxHeartbeats 4000000 in
set_option maxRecDepth 100000 in
theorem c_nextInOrder (l : Launch) (D : va_G) (cy : Nat → ClassId) (sa : Nat → Addr) (hfl : l.stackTraces = false) (ad : Nat → Nat) (n : Nat) (M : Nat → Int → Int) (hn : n ≤ 8) (f : Nat → Int) (hf : ∀ i, i < n → M (8 + 2 * i) 10 = f i) (hfr : ∀ i, i < n → -1 ≤ f i ∧ f i < 720) (rq : Nat → Nat) (hrq : ∀ i, i < n → M (8 + 2 * i) 6 = (rq i : Int) ∧ rq i < 256) (x : Int) (x0 : 0 ≤ x) (x1 : x < 720) : Ct l D cy sa yX2_nextInOrder cX2_nextInOrder 7 (some .int) 4 0 0 (cl cy (sa 100) ad n M) [.ref (ad 0), vi x] (fun v ws2 => v = some (vi (nxt n rq x f)) ∧ ws2 = cl cy (sa 100) ad n M) no_x := by
  refine Ct.of (own := RX2) (lc := [(0, .ref (ad 0)), (1, vi x)]) (by decide +kernel) hfl (Nat.le_of_ble_eq_true rfl) rfl rfl ?_
  intro p e s m args below meth c A C hex hnm
  generalize hQ : vx_MQ below (Qo D (fun v ws2 => v = some (vi (nxt n rq x f)) ∧ ws2 = cl cy (sa 100) ad n M) A) (Xo D no_x A) args s 0 0 A = Q
  replace hQ := hQ.symm
  skip
  refine V.iconst C dX2_nextInOrder_0 ?_
  refine V.istore_n C (lc2 := [(2, vi (-1)), (0, .ref (ad 0)), (1, vi x)]) dX2_nextInOrder_1 (by decide) rfl ?_
  refine V.iload_n C dX2_nextInOrder_2 2 rfl ?_
  refine V.iconst C dX2_nextInOrder_3 ?_
  refine V.iadd C dX2_nextInOrder_4 ?_
  refine V.istore_n C (lc2 := [(3, vi (x + 1)), (2, vi (-1)), (0, .ref (ad 0)), (1, vi x)]) dX2_nextInOrder_5 (by decide) rfl ?_
  refine V.iconst C dX2_nextInOrder_6 ?_
  refine V.istore C (lc2 := [(4, vi 0), (3, vi (x + 1)), (2, vi (-1)), (0, .ref (ad 0)), (1, vi x)]) dX2_nextInOrder_7 (by decide) rfl ?_
  have loop9 : ∀ (fz : Nat) (i : Int) (ch : Int) (g : Int), (0 ≤ i) → (i ≤ n) → (nioF f (fun i => lb n (rq i) f (f i)) x i.toNat = (ch, g)) → (((n : Int) - i).toNat < fz) → V D 7 A p l e (rmL 4 0 0) s m args below meth c Q 0 0 (cl cy (sa 100) ad n M) 9 [(4, vi i), (3, vi g), (2, vi ch), (0, .ref (ad 0)), (1, vi x)] [] := by
    intro fz
    induction fz with
    | zero => intro i ch g e0 e1 e2 hf; exact absurd hf (Nat.not_lt_zero _)
    | succ fz ih9 =>
      intro i ch g e0 e1 e2 hf9
      have vg := nioF_rng (f := f) (bl := (fun i => lb n (rq i) f (f i))) ⟨x0, x1⟩ i.toNat (fun j hj => hfr j (by omega))
      rw [e2] at vg
      simp only at vg
      refine V.iload C dX2_nextInOrder_9 0 rfl ?_
      refine V.aload_n C dX2_nextInOrder_11 3 rfl ?_
      refine V.getf C (v := .ref (ad 5)) 0 cl_0 rfl inX2 1 (by decide) fl_X2_19 (fun _ h => h) rfl dX2_nextInOrder_12 ?_
      refine V.callV C (As := []) (st := [vi i]) (wr := []) kV_X2_39 (c_size l D cy sa hfl ad n M) rfl 5 cl_5 rfl rfl rfl (Nat.le_of_ble_eq_true rfl) ⟨by decide, by decide⟩ ⟨by decide, by decide⟩ dX2_nextInOrder_15 (fun _ _ h => h.elim) (fun v1 w2 r3 => ?_)
      obtain ⟨rfl, hw2⟩ := r3
      rw [hw2]
      show V D 7 A p l e (rmL 4 0 0) s m args below meth c Q 0 0 (cl cy (sa 100) ad n M) 18 [(4, vi i), (3, vi g), (2, vi ch), (0, .ref (ad 0)), (1, vi x)] [vi (n : Int), vi i]
      refine V.icmp_ge C 90 dX2_nextInOrder_18 (by decide) ⟨by omega, by omega⟩ ⟨by omega, by omega⟩ (fun h18 => ?_) (fun h18 => ?_)
      · skip
        refine V.iload_n C dX2_nextInOrder_90 2 rfl ?_
        rw [hQ]
        exact V.iret C dX2_nextInOrder_91 (by decide) (by decide) (⟨ri (by rw [show i.toNat = n by omega] at e2; rw [nxt, e2]), rfl⟩)
      · skip
        obtain ⟨r, rfl⟩ : ∃ r : Nat, i = (r : Int) := ⟨i.toNat, by omega⟩
        have hr : r < n := by omega
        have fr := hfr r hr
        refine V.aload_n C dX2_nextInOrder_21 3 rfl ?_
        refine V.getf C (v := .ref (ad 5)) 0 cl_0 rfl inX2 1 (by decide) fl_X2_19 (fun _ h => h) rfl dX2_nextInOrder_22 ?_
        refine V.iload C dX2_nextInOrder_25 0 rfl ?_
        refine V.callV C (As := [vi (r : Int)]) (st := []) (wr := []) kV_X2_43 (c_get l D cy sa hfl ad n M r hr hn) rfl 5 cl_5 rfl rfl rfl (Nat.le_of_ble_eq_true rfl) ⟨by decide, by decide⟩ ⟨by decide, by decide⟩ dX2_nextInOrder_27 (fun _ _ h => h.elim) (fun v4 w5 r6 => ?_)
        obtain ⟨rfl, hw5⟩ := r6
        rw [hw5]
        show V D 7 A p l e (rmL 4 0 0) s m args below meth c Q 0 0 (cl cy (sa 100) ad n M) 30 [(4, vi (r : Int)), (3, vi g), (2, vi ch), (0, .ref (ad 0)), (1, vi x)] [.ref (ad (8 + 2 * r))]
        refine V.cast C (8 + 2 * r) (cl_r hr) rfl cl_X2_47 dX2_nextInOrder_30 ?_
        refine V.astore C (lc2 := [(5, .ref (ad (8 + 2 * r))), (4, vi (r : Int)), (3, vi g), (2, vi ch), (0, .ref (ad 0)), (1, vi x)]) dX2_nextInOrder_33 (by decide) rfl ?_
        have join51 : ∀ (y : Bool), (y = !decide (f r = -1)) → V D 7 A p l e (rmL 4 0 0) s m args below meth c Q 0 0 (cl cy (sa 100) ad n M) 51 [(6, vi (bI y)), (5, .ref (ad (8 + 2 * r))), (4, vi (r : Int)), (3, vi g), (2, vi ch), (0, .ref (ad 0)), (1, vi x)] [] := by
          intro y hy
          refine V.iload C dX2_nextInOrder_51 0 rfl ?_
          have hz : y = true → ¬ f r = -1 := fun z => by rw [hy] at z; simpa using z
          have hz2 : y = false → f r = -1 := fun z => by rw [hy] at z; simpa using z
          refine V.if_eqB C 84 dX2_nextInOrder_53 (by decide) (fun h53 => ?_) (fun h53 => ?_)
          · skip
            have hz3 := hz2 h53
            refine V.iinc C (lc2 := [(4, vi ((r : Int) + 1)), (6, vi (bI y)), (5, .ref (ad (8 + 2 * r))), (3, vi g), (2, vi ch), (0, .ref (ad 0)), (1, vi x)]) dX2_nextInOrder_84 2 rfl (by decide) rfl ?_
            refine V.goto C 9 dX2_nextInOrder_87 (by decide) ?_
            exact V.sub [0, 3, 4, 5, 6] rfl (ih9 ((r : Int) + 1) ch g (by omega) (by omega) (by rw [show ((r : Int) + 1).toNat = r + 1 by omega]; rw [Int.toNat_natCast] at e2; first | exact nio_t e2 hz3 (by omega) h72 | exact nio_f e2 (Or.inl hz3) | exact nio_f e2 (Or.inr (Or.inl (by omega))) | exact nio_f e2 (Or.inr (Or.inr h72))) (by omega))
          · skip
            have hz3 := hz h53
            refine V.aload C dX2_nextInOrder_56 1 rfl ?_
            refine V.getf C (v := vi (f r)) (8 + 2 * r) (cl_r hr) rfl inX1 10 (by decide) fl_X2_162 (fun _ h => h) (by show some _ = some _; rw [hf r hr]) dX2_nextInOrder_58 ?_
            refine V.iload_n C dX2_nextInOrder_61 3 rfl ?_
            refine V.icmp_ge C 84 dX2_nextInOrder_62 (by decide) ⟨by omega, by omega⟩ ⟨by omega, by omega⟩ (fun h62 => ?_) (fun h62 => ?_)
            · skip
              refine V.iinc C (lc2 := [(4, vi ((r : Int) + 1)), (6, vi (bI y)), (5, .ref (ad (8 + 2 * r))), (3, vi g), (2, vi ch), (0, .ref (ad 0)), (1, vi x)]) dX2_nextInOrder_84 2 rfl (by decide) rfl ?_
              refine V.goto C 9 dX2_nextInOrder_87 (by decide) ?_
              exact V.sub [0, 3, 4, 5, 6] rfl (ih9 ((r : Int) + 1) ch g (by omega) (by omega) (by rw [show ((r : Int) + 1).toNat = r + 1 by omega]; rw [Int.toNat_natCast] at e2; first | exact nio_t e2 hz3 (by omega) h72 | exact nio_f e2 (Or.inl hz3) | exact nio_f e2 (Or.inr (Or.inl (by omega))) | exact nio_f e2 (Or.inr (Or.inr h72))) (by omega))
            · skip
              refine V.aload_n C dX2_nextInOrder_65 5 rfl ?_
              refine V.aload C dX2_nextInOrder_66 1 rfl ?_
              refine V.callV C (As := [.ref (ad (8 + 2 * r))]) (st := []) (wr := []) kV_X2_141 (c_leastBlocker l D cy sa hfl ad n M hn f hf hfr rq hrq r hr) rfl 0 cl_0 rfl rfl rfl (Nat.le_of_ble_eq_true rfl) ⟨by decide, by decide⟩ ⟨by decide, by decide⟩ dX2_nextInOrder_68 (fun _ _ h => h.elim) (fun v7 w8 r9 => ?_)
              obtain ⟨rfl, hw8⟩ := r9
              rw [hw8]
              show V D 7 A p l e (rmL 4 0 0) s m args below meth c Q 0 0 (cl cy (sa 100) ad n M) 71 [(6, vi (bI y)), (5, .ref (ad (8 + 2 * r))), (4, vi (r : Int)), (3, vi g), (2, vi ch), (0, .ref (ad 0)), (1, vi x)] [vi (lb n (rq r) f (f r))]
              have vl := lb_rng (n := n) (rb := rq r) (f := f) (fb := f r)
              refine V.iconst C dX2_nextInOrder_71 ?_
              refine V.icmp_ne C 84 dX2_nextInOrder_72 (by decide) ⟨by omega, by omega⟩ ⟨by decide, by decide⟩ (fun h72 => ?_) (fun h72 => ?_)
              · skip
                refine V.iinc C (lc2 := [(4, vi ((r : Int) + 1)), (6, vi (bI y)), (5, .ref (ad (8 + 2 * r))), (3, vi g), (2, vi ch), (0, .ref (ad 0)), (1, vi x)]) dX2_nextInOrder_84 2 rfl (by decide) rfl ?_
                refine V.goto C 9 dX2_nextInOrder_87 (by decide) ?_
                exact V.sub [0, 3, 4, 5, 6] rfl (ih9 ((r : Int) + 1) ch g (by omega) (by omega) (by rw [show ((r : Int) + 1).toNat = r + 1 by omega]; rw [Int.toNat_natCast] at e2; first | exact nio_t e2 hz3 (by omega) h72 | exact nio_f e2 (Or.inl hz3) | exact nio_f e2 (Or.inr (Or.inl (by omega))) | exact nio_f e2 (Or.inr (Or.inr h72))) (by omega))
              · skip
                refine V.iload C dX2_nextInOrder_75 2 rfl ?_
                refine V.istore_n C (lc2 := [(2, vi (r : Int)), (6, vi (bI y)), (5, .ref (ad (8 + 2 * r))), (4, vi (r : Int)), (3, vi g), (0, .ref (ad 0)), (1, vi x)]) dX2_nextInOrder_77 (by decide) rfl ?_
                refine V.aload C dX2_nextInOrder_78 2 rfl ?_
                refine V.getf C (v := vi (f r)) (8 + 2 * r) (cl_r hr) rfl inX1 10 (by decide) fl_X2_162 (fun _ h => h) (by show some _ = some _; rw [hf r hr]) dX2_nextInOrder_80 ?_
                refine V.istore_n C (lc2 := [(3, vi (f r)), (2, vi (r : Int)), (6, vi (bI y)), (5, .ref (ad (8 + 2 * r))), (4, vi (r : Int)), (0, .ref (ad 0)), (1, vi x)]) dX2_nextInOrder_83 (by decide) rfl ?_
                refine V.iinc C (lc2 := [(4, vi ((r : Int) + 1)), (3, vi (f r)), (2, vi (r : Int)), (6, vi (bI y)), (5, .ref (ad (8 + 2 * r))), (0, .ref (ad 0)), (1, vi x)]) dX2_nextInOrder_84 4 rfl (by decide) rfl ?_
                refine V.goto C 9 dX2_nextInOrder_87 (by decide) ?_
                exact V.sub [0, 1, 2, 5, 6] rfl (ih9 ((r : Int) + 1) (r : Int) (f r) (by omega) (by omega) (by rw [show ((r : Int) + 1).toNat = r + 1 by omega]; rw [Int.toNat_natCast] at e2; first | exact nio_t e2 hz3 (by omega) h72 | exact nio_f e2 (Or.inl hz3) | exact nio_f e2 (Or.inr (Or.inl (by omega))) | exact nio_f e2 (Or.inr (Or.inr h72))) (by omega))
        refine V.aload C dX2_nextInOrder_35 0 rfl ?_
        refine V.getf C (v := vi (f r)) (8 + 2 * r) (cl_r hr) rfl inX1 10 (by decide) fl_X2_162 (fun _ h => h) (by show some _ = some _; rw [hf r hr]) dX2_nextInOrder_37 ?_
        refine V.iconst C dX2_nextInOrder_40 ?_
        refine V.icmp_eq C 48 dX2_nextInOrder_41 (by decide) ⟨by omega, by omega⟩ ⟨by decide, by decide⟩ (fun h41 => ?_) (fun h41 => ?_)
        · skip
          refine V.iconst C dX2_nextInOrder_48 ?_
          refine V.istore C (lc2 := [(6, vi 0), (5, .ref (ad (8 + 2 * r))), (4, vi (r : Int)), (3, vi g), (2, vi ch), (0, .ref (ad 0)), (1, vi x)]) dX2_nextInOrder_49 (by decide) rfl ?_
          exact join51 false (by simp [h41])
        · skip
          refine V.iconst C dX2_nextInOrder_44 ?_
          refine V.goto C 49 dX2_nextInOrder_45 (by decide) ?_
          refine V.istore C (lc2 := [(6, vi 1), (5, .ref (ad (8 + 2 * r))), (4, vi (r : Int)), (3, vi g), (2, vi ch), (0, .ref (ad 0)), (1, vi x)]) dX2_nextInOrder_49 (by decide) rfl ?_
          exact join51 true (by simp [h41])
  exact loop9 _ 0 (-1) (x + 1) (by omega) (by omega) rfl (Nat.lt_succ_self _)
theorem ordF_at {h : Int → Bool} {q : Nat → Nat → Int} {n : Nat} {rq : Nat → Nat} {x dn z : Int} {g : Nat → Int} (hd : dn < 5760) : ordF h q n rq x (5760 - dn).toNat g z = if nxt n rq x g = -1 then -1 else if z = 0 then nxt n rq x g else ordF h q n rq x (5760 - (dn + 1)).toNat (adv h q (nxt n rq x g) g) (z - 1) := by
  rw [show (5760 - dn).toNat = (5760 - (dn + 1)).toNat + 1 by omega]; rfl
theorem ordF_end {h : Int → Bool} {q : Nat → Nat → Int} {n : Nat} {rq : Nat → Nat} {x dn z : Int} {g : Nat → Int} (hd : 5760 ≤ dn) : ordF h q n rq x (5760 - dn).toNat g z = -1 := by
  rw [show (5760 - dn).toNat = 0 by omega]; rfl
theorem nxt_rng {n : Nat} {rq : Nat → Nat} {x : Int} {f : Nat → Int} (hx : 0 ≤ x ∧ x < 720) (hf : ∀ i, i < n → -1 ≤ f i ∧ f i < 720) : -1 ≤ nxt n rq x f ∧ nxt n rq x f < (n : Int) := by
  have := nioF_rng (bl := fun i => lb n (rq i) f (f i)) hx n hf
  exact ⟨this.1, this.2.1⟩
set_option maxHeartbeats 4000000 in
set_option maxRecDepth 100000 in
theorem c_order (l : Launch) (D : va_G) (cy : Nat → ClassId) (sa : Nat → Addr) (hfl : l.stackTraces = false) (ad : Nat → Nat) (n : Nat) (M : Nat → Int → Int) (h : Int → Bool) (td : Int) (q : Nat → Nat → Int) (rq nd : Nat → Nat) (hci : CI h td n q rq nd M) (x : Int) (hx : inR x) (z : Int) (hz : inR z) : Ct l D cy sa yX2_order cX2_order 6 (some .int) 8 6 36 (cl cy (sa 100) ad n M) [.ref (ad 0), vi x, vi z] (fun v ws2 => kDP x z = 0 ∧ v = some (vi (ordF h q n rq x 5760 (fo h q) z)) ∧ ∃ M2, ws2 = cl cy (sa 100) ad n M2 ∧ CI h td n q rq nd M2) (fun E ws2 => ((E = xIO ∧ kDP x z = 1)) ∧ ∃ M2, ws2 = cl cy (sa 100) ad n M2 ∧ CI h td n q rq nd M2) := by
  refine Ct.of (own := RX2) (lc := [(0, .ref (ad 0)), (1, vi x), (2, vi z)]) (by decide +kernel) hfl (Nat.le_of_ble_eq_true rfl) rfl rfl ?_
  intro p e s m args below meth c A C hex hnm
  generalize hQ : vx_MQ below (Qo D (fun v ws2 => kDP x z = 0 ∧ v = some (vi (ordF h q n rq x 5760 (fo h q) z)) ∧ ∃ M2, ws2 = cl cy (sa 100) ad n M2 ∧ CI h td n q rq nd M2) A) (Xo D (fun E ws2 => ((E = xIO ∧ kDP x z = 1)) ∧ ∃ M2, ws2 = cl cy (sa 100) ad n M2 ∧ CI h td n q rq nd M2) A) args s 6 36 A = Q
  replace hQ := hQ.symm
  obtain ⟨hc, ⟨htd, td0, td1⟩, hn, hR⟩ := id hci
  obtain ⟨hxl, hxr⟩ := hx
  obtain ⟨hzl, hzr⟩ := hz
  refine V.iload_n C dX2_order_0 1 rfl ?_
  refine V.callS C (As := [vi x]) (st := []) (wr := []) kS_X2_31 (c_checkDay l D cy sa hfl _ x ⟨by omega, by omega⟩) rfl rfl rfl (Nat.le_of_ble_eq_true rfl) ⟨by decide, by decide⟩ ⟨by decide, by decide⟩ dX2_order_1 (fun E wsx hx => ?_) (fun v1 w2 r3 => ?_)
  · skip
    obtain ⟨rfl, rfl, hx1⟩ := hx
    rw [hQ]
    exact VX.out C hex (by decide) (by decide) ⟨⟨rfl, kDP_1 (Or.inl hx1)⟩, M, rfl, hci⟩
  · skip
    obtain ⟨rfl, hw2, gx0, gx1⟩ := r3
    rw [hw2]
    show V D 6 A p l e (rmL 8 6 36) s m args below meth c Q 1 6 (cl cy (sa 100) ad n M) 4 [(0, .ref (ad 0)), (1, vi x), (2, vi z)] []
    refine V.iload_n C dX2_order_4 2 rfl ?_
    refine V.callS C (As := [vi z]) (st := []) (wr := []) kS_X2_110 (c_checkPlace l D cy sa hfl _ z ⟨by omega, by omega⟩) rfl rfl rfl (Nat.le_of_ble_eq_true rfl) ⟨by decide, by decide⟩ ⟨by decide, by decide⟩ dX2_order_5 (fun E wsx hx => ?_) (fun v4 w5 r6 => ?_)
    · skip
      obtain ⟨rfl, rfl, hx1⟩ := hx
      rw [hQ]
      exact VX.out C hex (by decide) (by decide) ⟨⟨rfl, kDP_1 (Or.inr hx1)⟩, M, rfl, hci⟩
    · skip
      obtain ⟨rfl, hw5, gz0⟩ := r6
      rw [hw5]
      show V D 6 A p l e (rmL 8 6 36) s m args below meth c Q 2 12 (cl cy (sa 100) ad n M) 8 [(0, .ref (ad 0)), (1, vi x), (2, vi z)] []
      refine V.aload_n C dX2_order_8 0 rfl ?_
      refine V.callV C (As := []) (st := []) (wr := []) kV_X2_138 (c_foreseeOpenDuties l D cy sa hfl ad n M h td q rq nd hci) rfl 0 cl_0 rfl rfl rfl (Nat.le_of_ble_eq_true rfl) ⟨by decide, by decide⟩ ⟨by decide, by decide⟩ dX2_order_9 (fun _ _ h => h.elim) (fun v7 w8 r9 => ?_)
      obtain ⟨rfl, M1, hw8, m1, m2⟩ := r9
      rw [hw8]
      have hci1 := hci.same10 m1
      show V D 6 A p l e (rmL 8 6 36) s m args below meth c Q 2 12 (cl cy (sa 100) ad n M1) 12 [(0, .ref (ad 0)), (1, vi x), (2, vi z)] []
      refine V.iconst C dX2_order_12 ?_
      refine V.istore_n C (lc2 := [(3, vi 0), (0, .ref (ad 0)), (1, vi x), (2, vi z)]) dX2_order_13 (by decide) rfl ?_
      have loop14 : ∀ (fz : Nat) (dn : Int) (M1 : Nat → Int → Int) (g : Nat → Int), (0 ≤ dn) → (dn ≤ 5760) → (∀ k j, (j ≠ 10 ∨ k < 8 ∨ k % 2 = 1) → M1 k j = M k j) → (∀ i : Nat, i < n → M1 (8 + 2 * i) 10 = g i) → (∀ i : Nat, i < n → -1 ≤ g i ∧ g i < 720) → (ordF h q n rq x 5760 (fo h q) z = ordF h q n rq x (5760 - dn).toNat g (z - dn)) → ((5760 - dn).toNat < fz) → V D 6 A p l e (rmL 8 6 36) s m args below meth c Q 2 12 (cl cy (sa 100) ad n M1) 14 [(3, vi dn), (0, .ref (ad 0)), (1, vi x), (2, vi z)] [] := by
        intro fz
        induction fz with
        | zero => intro dn M1 g e0 e1 m1 mg mr eO hf; exact absurd hf (Nat.not_lt_zero _)
        | succ fz ih14 =>
          intro dn M1 g e0 e1 m1 mg mr eO hf14
          have hci1 := hci.same10 m1
          have vn := nxt_rng (rq := rq) (x := x) ⟨gx0, gx1⟩ mr
          refine V.iload_n C dX2_order_14 0 rfl ?_
          refine V.sipush C dX2_order_15 (by decide) ?_
          refine V.icmp_ge C 73 dX2_order_18 (by decide) ⟨by omega, by omega⟩ ⟨by decide, by decide⟩ (fun h18 => ?_) (fun h18 => ?_)
          · skip
            refine V.iconst C dX2_order_73 ?_
            rw [hQ]
            exact V.iret C dX2_order_74 (by decide) (by decide) (⟨kDP_0 gx0 gx1 gz0, ri (by rw [eO, ordF_end (by omega)]), M1, rfl, hci1⟩)
          · skip
            refine V.aload_n C dX2_order_21 1 rfl ?_
            refine V.iload_n C dX2_order_22 2 rfl ?_
            refine V.callV C (As := [vi x]) (st := []) (wr := []) kV_X2_159 (c_nextInOrder l D cy sa hfl ad n M1 hn g mg mr rq hci1.rqs x gx0 gx1) rfl 0 cl_0 rfl rfl rfl (Nat.le_of_ble_eq_true rfl) ⟨by decide, by decide⟩ ⟨by decide, by decide⟩ dX2_order_23 (fun _ _ h => h.elim) (fun v10 w11 r12 => ?_)
            obtain ⟨rfl, hw11⟩ := r12
            rw [hw11]
            show V D 6 A p l e (rmL 8 6 36) s m args below meth c Q 2 12 (cl cy (sa 100) ad n M1) 26 [(3, vi dn), (0, .ref (ad 0)), (1, vi x), (2, vi z)] [vi (nxt n rq x g)]
            refine V.istore C (lc2 := [(4, vi (nxt n rq x g)), (3, vi dn), (0, .ref (ad 0)), (1, vi x), (2, vi z)]) dX2_order_26 (by decide) rfl ?_
            refine V.iload C dX2_order_28 0 rfl ?_
            refine V.iconst C dX2_order_30 ?_
            refine V.icmp_eq C 39 dX2_order_31 (by decide) ⟨by omega, by omega⟩ ⟨by decide, by decide⟩ (fun h31 => ?_) (fun h31 => ?_)
            · skip
              refine V.iload C dX2_order_39 0 rfl ?_
              rw [hQ]
              exact V.iret C dX2_order_41 (by decide) (by decide) (⟨kDP_0 gx0 gx1 gz0, ri (by rw [eO, ordF_at (by omega)]; first | (rw [if_pos h31, h31]; done) | (rw [if_neg h31, if_pos (by omega)]; done)), M1, rfl, hci1⟩)
            · skip
              refine V.iload_n C dX2_order_34 1 rfl ?_
              refine V.iload_n C dX2_order_35 4 rfl ?_
              refine V.icmp_ne C 42 dX2_order_36 (by decide) ⟨by omega, by omega⟩ ⟨by omega, by omega⟩ (fun h36 => ?_) (fun h36 => ?_)
              · skip
                obtain ⟨r, hr9⟩ : ∃ r : Nat, nxt n rq x g = (r : Int) := ⟨(nxt n rq x g).toNat, by omega⟩
                have hr : r < n := by omega
                rw [hr9]
                have gr := mr r hr
                refine V.aload_n C dX2_order_42 2 rfl ?_
                refine V.iload C dX2_order_43 0 rfl ?_
                refine V.callV C (As := [vi (r : Int)]) (st := []) (wr := []) kV_X2_86 (c_ruleAt_ok l D cy sa hfl ad n M1 hn r hr) rfl 0 cl_0 rfl rfl rfl (Nat.le_of_ble_eq_true rfl) ⟨by decide, by decide⟩ ⟨by decide, by decide⟩ dX2_order_45 (fun _ _ h => h.elim) (fun v13 w14 r15 => ?_)
                obtain ⟨rfl, hw14⟩ := r15
                rw [hw14]
                show V D 6 A p l e (rmL 8 6 36) s m args below meth c Q 2 12 (cl cy (sa 100) ad n M1) 48 [(4, vi (r : Int)), (3, vi dn), (0, .ref (ad 0)), (1, vi x), (2, vi z)] [.ref (ad (8 + 2 * r))]
                refine V.astore C (lc2 := [(5, .ref (ad (8 + 2 * r))), (4, vi (r : Int)), (3, vi dn), (0, .ref (ad 0)), (1, vi x), (2, vi z)]) dX2_order_48 (by decide) rfl ?_
                refine V.aload C dX2_order_50 0 rfl ?_
                refine V.aload C dX2_order_52 0 rfl ?_
                refine V.aload C dX2_order_54 0 rfl ?_
                refine V.getf C (v := vi (g r)) (8 + 2 * r) (cl_r hr) rfl inX1 10 (by decide) fl_X2_162 (fun _ h => h) (by show some _ = some _; rw [mg r hr]) dX2_order_56 ?_
                refine V.iconst C dX2_order_59 ?_
                refine V.iadd C dX2_order_60 ?_
                refine V.callV C (As := [vi ((g r) + 1)]) (st := [.ref (ad (8 + 2 * r))]) (wr := []) kV_X2_120 (c_firstDueFrom l D cy sa hfl ad n M1 r hr _ (hci1.2.2.2 r hr).2.2.1 (g r + 1) (by omega) (by omega)) rfl (8 + 2 * r) (cl_r hr) rfl rfl rfl (Nat.le_of_ble_eq_true rfl) ⟨by decide, by decide⟩ ⟨by decide, by decide⟩ dX2_order_61 (fun _ _ h => h.elim) (fun v16 w17 r18 => ?_)
                obtain ⟨rfl, hw17⟩ := r18
                rw [hw17]
                show V D 6 A p l e (rmL 8 6 36) s m args below meth c Q 2 12 (cl cy (sa 100) ad n M1) 64 [(5, .ref (ad (8 + 2 * r))), (4, vi (r : Int)), (3, vi dn), (0, .ref (ad 0)), (1, vi x), (2, vi z)] [vi (fst (dueR h (q r)) (g r + 1)), .ref (ad (8 + 2 * r))]
                refine V.putf C (v := vi (fst (dueR h (q r)) (g r + 1))) (ty := .int) (8 + 2 * r) (cl_r hr) rfl inX1 tyX1 tyX1_ok nmX1 10 (by decide) fl_X2_162 (fun _ h => h) rfl (by decide +kernel) rfl rfl (Nat.le_of_ble_eq_true rfl) dX2_order_64 (put_r (q := r) (by decide)) ?_
                refine V.iinc C (lc2 := [(3, vi (dn + 1)), (5, .ref (ad (8 + 2 * r))), (4, vi (r : Int)), (0, .ref (ad 0)), (1, vi x), (2, vi z)]) dX2_order_67 2 rfl (by decide) rfl ?_
                refine V.goto C 14 dX2_order_70 (by decide) ?_
                exact V.sub [0, 3, 4, 5] rfl (ih14 (dn + 1) (upM M1 (8 + 2 * r) 10 (fst (dueR h (q r)) (g r + 1))) (adv h q (r : Int) g) (by omega) (by omega) (fun k j hkj => (upM_n (by omega)).trans (m1 k j hkj)) (fun i hi => by
                      by_cases c : i = r
                      · subst c; rw [upM_s]; simp [adv]
                      · rw [upM_n (Or.inl (by omega)), mg i hi]; simp [adv, c]) (fun i hi => by
                      have v1 := fst_rng (p := dueR h (q i)) (a := g i + 1)
                      have v2 := mr i hi
                      unfold adv
                      split <;> omega) (by rw [eO, ordF_at (by omega), if_neg (by omega), if_neg (by omega), hr9]; congr 1; omega) (by omega))
              · skip
                refine V.iload C dX2_order_39 0 rfl ?_
                rw [hQ]
                exact V.iret C dX2_order_41 (by decide) (by decide) (⟨kDP_0 gx0 gx1 gz0, ri (by rw [eO, ordF_at (by omega)]; first | (rw [if_pos h31, h31]; done) | (rw [if_neg h31, if_pos (by omega)]; done)), M1, rfl, hci1⟩)
      exact loop14 _ 0 M1 (fo h q) (by omega) (by omega) m1 m2 (fun i _ => fo_rng h q i) (by rw [Int.sub_zero, Int.sub_zero]; rfl) (Nat.lt_succ_self _)
