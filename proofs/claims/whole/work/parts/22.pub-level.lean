theorem nio_t {f bl : Nat → Int} {x g ch : Int} {r : Nat} (e : nioF f bl x r = (ch, g)) (h1 : ¬ f r = -1) (h2 : f r < g) (h3 : bl r = -1) : nioF f bl x (r + 1) = ((r : Int), f r) := by
  simp only [nioF, e]
  rw [if_pos ⟨h1, h2, h3⟩]
theorem nio_f {f bl : Nat → Int} {x g ch : Int} {r : Nat} (e : nioF f bl x r = (ch, g)) (h : f r = -1 ∨ g ≤ f r ∨ ¬ bl r = -1) : nioF f bl x (r + 1) = (ch, g) := by
  simp only [nioF, e]
  rw [if_neg (fun z => by
    rcases h with h | h | h
    · exact z.1 h
    · exact absurd z.2.1 (by omega)
    · exact h z.2.2)]
set_option maxHeartbeats 4000000 in
set_option maxRecDepth 100000 in
theorem c_nextInOrder (l : Launch) (D : va_G) (cy : Nat → ClassId) (sa : Nat → Addr) (hfl : l.stackTraces = false) (ad : Nat → Nat) (n : Nat) (M : Nat → Int → Int) (hn : n ≤ 8) (f : Nat → Int) (hf : ∀ i, i < n → M (8 + 2 * i) 10 = f i) (hfr : ∀ i, i < n → -1 ≤ f i ∧ f i < 720) (rq : Nat → Nat) (hrq : ∀ i, i < n → M (8 + 2 * i) 6 = (rq i : Int) ∧ rq i < 256) (x : Int) (x0 : 0 ≤ x) (x1 : x < 720) : Ct l D cy sa yX2_nextInOrder cX2_nextInOrder 7 (some .int) 4 0 0 (cl cy (sa 100) ad n M) [.ref (ad 0), vi x] (fun v ws2 => v = some (vi (nxt n rq x f)) ∧ ws2 = cl cy (sa 100) ad n M) no_x := by
  refine Ct.of (own := RX2) (lc := [(0, .ref (ad 0)), (1, vi x)]) (by decide +kernel) hfl (Nat.le_of_ble_eq_true rfl) rfl rfl ?_
  intro p e s m args below meth c A C hex hnm
  generalize hQ : vx_MQ below (Qo D (fun v ws2 => v = some (vi (nxt n rq x f)) ∧ ws2 = cl cy (sa 100) ad n M) A) (Xo D no_x A) args s 0 0 A = Q
  replace hQ := hQ.symm
  skip
  refine V.iconst C dX2_nextInOrder_0 ?_
  refine V.istore_n C (lc2 := [(2, vi (-1)), (0, .ref (ad 0)), (1, vi x)]) dX2_nextInOrder_1 (by decide) rfl ?_
  refine V.iload_n C dX2_nextInOrder_2 2 rfl ?_
  refine V.iconst C dX2_nextInOrder_3 ?_
  refine V.iadd C dX2_nextInOrder_4 ?_
  refine V.istore_n C (lc2 := [(3, vi (x + 1)), (2, vi (-1)), (0, .ref (ad 0)), (1, vi x)]) dX2_nextInOrder_5 (by decide) rfl ?_
  refine V.iconst C dX2_nextInOrder_6 ?_
  refine V.istore C (lc2 := [(4, vi 0), (3, vi (x + 1)), (2, vi (-1)), (0, .ref (ad 0)), (1, vi x)]) dX2_nextInOrder_7 (by decide) rfl ?_
  have loop9 : ∀ (fz : Nat) (i : Int) (ch : Int) (g : Int), (0 ≤ i) → (i ≤ n) → (nioF f (fun i => lb n (rq i) f (f i)) x i.toNat = (ch, g)) → (((n : Int) - i).toNat < fz) → V D 7 A p l e (rmL 4 0 0) s m args below meth c Q 0 0 (cl cy (sa 100) ad n M) 9 [(4, vi i), (3, vi g), (2, vi ch), (0, .ref (ad 0)), (1, vi x)] [] := by
    intro fz
    induction fz with
    | zero => intro i ch g e0 e1 e2 hf; exact absurd hf (Nat.not_lt_zero _)
    | succ fz ih9 =>
      intro i ch g e0 e1 e2 hf9
      have vg := nioF_rng (f := f) (bl := (fun i => lb n (rq i) f (f i))) ⟨x0, x1⟩ i.toNat (fun j hj => hfr j (by omega))
      rw [e2] at vg
      simp only at vg
      refine V.iload C dX2_nextInOrder_9 0 rfl ?_
      refine V.aload_n C dX2_nextInOrder_11 3 rfl ?_
      refine V.getf C (v := .ref (ad 5)) 0 cl_0 rfl inX2 1 (by decide) fl_X2_19 (fun _ h => h) rfl dX2_nextInOrder_12 ?_
      refine V.callV C (As := []) (st := [vi i]) (wr := []) kV_X2_39 (c_size l D cy sa hfl ad n M) rfl 5 cl_5 rfl rfl rfl (Nat.le_of_ble_eq_true rfl) ⟨by decide, by decide⟩ ⟨by decide, by decide⟩ dX2_nextInOrder_15 (fun _ _ h => h.elim) (fun v1 w2 r3 => ?_)
      obtain ⟨rfl, hw2⟩ := r3
      rw [hw2]
      show V D 7 A p l e (rmL 4 0 0) s m args below meth c Q 0 0 (cl cy (sa 100) ad n M) 18 [(4, vi i), (3, vi g), (2, vi ch), (0, .ref (ad 0)), (1, vi x)] [vi (n : Int), vi i]
      refine V.icmp_ge C 90 dX2_nextInOrder_18 (by decide) ⟨by omega, by omega⟩ ⟨by omega, by omega⟩ (fun h18 => ?_) (fun h18 => ?_)
      · skip
        refine V.iload_n C dX2_nextInOrder_90 2 rfl ?_
        rw [hQ]
        exact V.iret C dX2_nextInOrder_91 (by decide) (by decide) (⟨ri (by rw [show i.toNat = n by omega] at e2; rw [nxt, e2]), rfl⟩)
      · skip
        obtain ⟨r, rfl⟩ : ∃ r : Nat, i = (r : Int) := ⟨i.toNat, by omega⟩
        have hr : r < n := by omega
        have fr := hfr r hr
        refine V.aload_n C dX2_nextInOrder_21 3 rfl ?_
        refine V.getf C (v := .ref (ad 5)) 0 cl_0 rfl inX2 1 (by decide) fl_X2_19 (fun _ h => h) rfl dX2_nextInOrder_22 ?_
        refine V.iload C dX2_nextInOrder_25 0 rfl ?_
        refine V.callV C (As := [vi (r : Int)]) (st := []) (wr := []) kV_X2_43 (c_get l D cy sa hfl ad n M r hr hn) rfl 5 cl_5 rfl rfl rfl (Nat.le_of_ble_eq_true rfl) ⟨by decide, by decide⟩ ⟨by decide, by decide⟩ dX2_nextInOrder_27 (fun _ _ h => h.elim) (fun v4 w5 r6 => ?_)
        obtain ⟨rfl, hw5⟩ := r6
        rw [hw5]
        show V D 7 A p l e (rmL 4 0 0) s m args below meth c Q 0 0 (cl cy (sa 100) ad n M) 30 [(4, vi (r : Int)), (3, vi g), (2, vi ch), (0, .ref (ad 0)), (1, vi x)] [.ref (ad (8 + 2 * r))]
        refine V.cast C (8 + 2 * r) (cl_r hr) rfl cl_X2_47 dX2_nextInOrder_30 ?_
        refine V.astore C (lc2 := [(5, .ref (ad (8 + 2 * r))), (4, vi (r : Int)), (3, vi g), (2, vi ch), (0, .ref (ad 0)), (1, vi x)]) dX2_nextInOrder_33 (by decide) rfl ?_
        have join51 : ∀ (y : Bool), (y = !decide (f r = -1)) → V D 7 A p l e (rmL 4 0 0) s m args below meth c Q 0 0 (cl cy (sa 100) ad n M) 51 [(6, vi (bI y)), (5, .ref (ad (8 + 2 * r))), (4, vi (r : Int)), (3, vi g), (2, vi ch), (0, .ref (ad 0)), (1, vi x)] [] := by
          intro y hy
          refine V.iload C dX2_nextInOrder_51 0 rfl ?_
          have hz : y = true → ¬ f r = -1 := fun z => by rw [hy] at z; simpa using z
          have hz2 : y = false → f r = -1 := fun z => by rw [hy] at z; simpa using z
          refine V.if_eqB C 84 dX2_nextInOrder_53 (by decide) (fun h53 => ?_) (fun h53 => ?_)
          · skip
            have hz3 := hz2 h53
            refine V.iinc C (lc2 := [(4, vi ((r : Int) + 1)), (6, vi (bI y)), (5, .ref (ad (8 + 2 * r))), (3, vi g), (2, vi ch), (0, .ref (ad 0)), (1, vi x)]) dX2_nextInOrder_84 2 rfl (by decide) rfl ?_
            refine V.goto C 9 dX2_nextInOrder_87 (by decide) ?_
            exact V.sub [0, 3, 4, 5, 6] rfl (ih9 ((r : Int) + 1) ch g (by omega) (by omega) (by rw [show ((r : Int) + 1).toNat = r + 1 by omega]; rw [Int.toNat_natCast] at e2; first | exact nio_t e2 hz3 (by omega) h72 | exact nio_f e2 (Or.inl hz3) | exact nio_f e2 (Or.inr (Or.inl (by omega))) | exact nio_f e2 (Or.inr (Or.inr h72))) (by omega))
          · skip
            have hz3 := hz h53
            refine V.aload C dX2_nextInOrder_56 1 rfl ?_
            refine V.getf C (v := vi (f r)) (8 + 2 * r) (cl_r hr) rfl inX1 10 (by decide) fl_X2_162 (fun _ h => h) (by show some _ = some _; rw [hf r hr]) dX2_nextInOrder_58 ?_
            refine V.iload_n C dX2_nextInOrder_61 3 rfl ?_
            refine V.icmp_ge C 84 dX2_nextInOrder_62 (by decide) ⟨by omega, by omega⟩ ⟨by omega, by omega⟩ (fun h62 => ?_) (fun h62 => ?_)
            · skip
              refine V.iinc C (lc2 := [(4, vi ((r : Int) + 1)), (6, vi (bI y)), (5, .ref (ad (8 + 2 * r))), (3, vi g), (2, vi ch), (0, .ref (ad 0)), (1, vi x)]) dX2_nextInOrder_84 2 rfl (by decide) rfl ?_
              refine V.goto C 9 dX2_nextInOrder_87 (by decide) ?_
              exact V.sub [0, 3, 4, 5, 6] rfl (ih9 ((r : Int) + 1) ch g (by omega) (by omega) (by rw [show ((r : Int) + 1).toNat = r + 1 by omega]; rw [Int.toNat_natCast] at e2; first | exact nio_t e2 hz3 (by omega) h72 | exact nio_f e2 (Or.inl hz3) | exact nio_f e2 (Or.inr (Or.inl (by omega))) | exact nio_f e2 (Or.inr (Or.inr h72))) (by omega))
            · skip
              refine V.aload_n C dX2_nextInOrder_65 5 rfl ?_
              refine V.aload C dX2_nextInOrder_66 1 rfl ?_
              refine V.callV C (As := [.ref (ad (8 + 2 * r))]) (st := []) (wr := []) kV_X2_141 (c_leastBlocker l D cy sa hfl ad n M hn f hf hfr rq hrq r hr) rfl 0 cl_0 rfl rfl rfl (Nat.le_of_ble_eq_true rfl) ⟨by decide, by decide⟩ ⟨by decide, by decide⟩ dX2_nextInOrder_68 (fun _ _ h => h.elim) (fun v7 w8 r9 => ?_)
              obtain ⟨rfl, hw8⟩ := r9
              rw [hw8]
              show V D 7 A p l e (rmL 4 0 0) s m args below meth c Q 0 0 (cl cy (sa 100) ad n M) 71 [(6, vi (bI y)), (5, .ref (ad (8 + 2 * r))), (4, vi (r : Int)), (3, vi g), (2, vi ch), (0, .ref (ad 0)), (1, vi x)] [vi (lb n (rq r) f (f r))]
              have vl := lb_rng (n := n) (rb := rq r) (f := f) (fb := f r)
              refine V.iconst C dX2_nextInOrder_71 ?_
              refine V.icmp_ne C 84 dX2_nextInOrder_72 (by decide) ⟨by omega, by omega⟩ ⟨by decide, by decide⟩ (fun h72 => ?_) (fun h72 => ?_)
              · skip
                refine V.iinc C (lc2 := [(4, vi ((r : Int) + 1)), (6, vi (bI y)), (5, .ref (ad (8 + 2 * r))), (3, vi g), (2, vi ch), (0, .ref (ad 0)), (1, vi x)]) dX2_nextInOrder_84 2 rfl (by decide) rfl ?_
                refine V.goto C 9 dX2_nextInOrder_87 (by decide) ?_
                exact V.sub [0, 3, 4, 5, 6] rfl (ih9 ((r : Int) + 1) ch g (by omega) (by omega) (by rw [show ((r : Int) + 1).toNat = r + 1 by omega]; rw [Int.toNat_natCast] at e2; first | exact nio_t e2 hz3 (by omega) h72 | exact nio_f e2 (Or.inl hz3) | exact nio_f e2 (Or.inr (Or.inl (by omega))) | exact nio_f e2 (Or.inr (Or.inr h72))) (by omega))
              · skip
                refine V.iload C dX2_nextInOrder_75 2 rfl ?_
                refine V.istore_n C (lc2 := [(2, vi (r : Int)), (6, vi (bI y)), (5, .ref (ad (8 + 2 * r))), (4, vi (r : Int)), (3, vi g), (0, .ref (ad 0)), (1, vi x)]) dX2_nextInOrder_77 (by decide) rfl ?_
                refine V.aload C dX2_nextInOrder_78 2 rfl ?_
                refine V.getf C (v := vi (f r)) (8 + 2 * r) (cl_r hr) rfl inX1 10 (by decide) fl_X2_162 (fun _ h => h) (by show some _ = some _; rw [hf r hr]) dX2_nextInOrder_80 ?_
                refine V.istore_n C (lc2 := [(3, vi (f r)), (2, vi (r : Int)), (6, vi (bI y)), (5, .ref (ad (8 + 2 * r))), (4, vi (r : Int)), (0, .ref (ad 0)), (1, vi x)]) dX2_nextInOrder_83 (by decide) rfl ?_
                refine V.iinc C (lc2 := [(4, vi ((r : Int) + 1)), (3, vi (f r)), (2, vi (r : Int)), (6, vi (bI y)), (5, .ref (ad (8 + 2 * r))), (0, .ref (ad 0)), (1, vi x)]) dX2_nextInOrder_84 4 rfl (by decide) rfl ?_
                refine V.goto C 9 dX2_nextInOrder_87 (by decide) ?_
                exact V.sub [0, 1, 2, 5, 6] rfl (ih9 ((r : Int) + 1) (r : Int) (f r) (by omega) (by omega) (by rw [show ((r : Int) + 1).toNat = r + 1 by omega]; rw [Int.toNat_natCast] at e2; first | exact nio_t e2 hz3 (by omega) h72 | exact nio_f e2 (Or.inl hz3) | exact nio_f e2 (Or.inr (Or.inl (by omega))) | exact nio_f e2 (Or.inr (Or.inr h72))) (by omega))
        refine V.aload C dX2_nextInOrder_35 0 rfl ?_
        refine V.getf C (v := vi (f r)) (8 + 2 * r) (cl_r hr) rfl inX1 10 (by decide) fl_X2_162 (fun _ h => h) (by show some _ = some _; rw [hf r hr]) dX2_nextInOrder_37 ?_
        refine V.iconst C dX2_nextInOrder_40 ?_
        refine V.icmp_eq C 48 dX2_nextInOrder_41 (by decide) ⟨by omega, by omega⟩ ⟨by decide, by decide⟩ (fun h41 => ?_) (fun h41 => ?_)
        · skip
          refine V.iconst C dX2_nextInOrder_48 ?_
          refine V.istore C (lc2 := [(6, vi 0), (5, .ref (ad (8 + 2 * r))), (4, vi (r : Int)), (3, vi g), (2, vi ch), (0, .ref (ad 0)), (1, vi x)]) dX2_nextInOrder_49 (by decide) rfl ?_
          exact join51 false (by simp [h41])
        · skip
          refine V.iconst C dX2_nextInOrder_44 ?_
          refine V.goto C 49 dX2_nextInOrder_45 (by decide) ?_
          refine V.istore C (lc2 := [(6, vi 1), (5, .ref (ad (8 + 2 * r))), (4, vi (r : Int)), (3, vi g), (2, vi ch), (0, .ref (ad 0)), (1, vi x)]) dX2_nextInOrder_49 (by decide) rfl ?_
          exact join51 true (by simp [h41])
  exact loop9 _ 0 (-1) (x + 1) (by omega) (by omega) rfl (Nat.lt_succ_self _)
theorem ordF_at {h : Int → Bool} {q : Nat → Nat → Int} {n : Nat} {rq : Nat → Nat} {x dn z : Int} {g : Nat → Int} (hd : dn < 5760) : ordF h q n rq x (5760 - dn).toNat g z = if nxt n rq x g = -1 then -1 else if z = 0 then nxt n rq x g else ordF h q n rq x (5760 - (dn + 1)).toNat (adv h q (nxt n rq x g) g) (z - 1) := by
  rw [show (5760 - dn).toNat = (5760 - (dn + 1)).toNat + 1 by omega]; rfl
theorem ordF_end {h : Int → Bool} {q : Nat → Nat → Int} {n : Nat} {rq : Nat → Nat} {x dn z : Int} {g : Nat → Int} (hd : 5760 ≤ dn) : ordF h q n rq x (5760 - dn).toNat g z = -1 := by
  rw [show (5760 - dn).toNat = 0 by omega]; rfl
theorem nxt_rng {n : Nat} {rq : Nat → Nat} {x : Int} {f : Nat → Int} (hx : 0 ≤ x ∧ x < 720) (hf : ∀ i, i < n → -1 ≤ f i ∧ f i < 720) : -1 ≤ nxt n rq x f ∧ nxt n rq x f < (n : Int) := by
  have := nioF_rng (bl := fun i => lb n (rq i) f (f i)) hx n hf
  exact ⟨this.1, this.2.1⟩
set_option maxHeartbeats 4000000 in
set_option maxRecDepth 100000 in
theorem c_order (l : Launch) (D : va_G) (cy : Nat → ClassId) (sa : Nat → Addr) (hfl : l.stackTraces = false) (ad : Nat → Nat) (n : Nat) (M : Nat → Int → Int) (h : Int → Bool) (td : Int) (q : Nat → Nat → Int) (rq nd : Nat → Nat) (hci : CI h td n q rq nd M) (x : Int) (hx : inR x) (z : Int) (hz : inR z) : Ct l D cy sa yX2_order cX2_order 6 (some .int) 8 6 36 (cl cy (sa 100) ad n M) [.ref (ad 0), vi x, vi z] (fun v ws2 => kDP x z = 0 ∧ v = some (vi (ordF h q n rq x 5760 (fo h q) z)) ∧ ∃ M2, ws2 = cl cy (sa 100) ad n M2 ∧ CI h td n q rq nd M2) (fun E ws2 => ((E = xIO ∧ kDP x z = 1)) ∧ ∃ M2, ws2 = cl cy (sa 100) ad n M2 ∧ CI h td n q rq nd M2) := by
  refine Ct.of (own := RX2) (lc := [(0, .ref (ad 0)), (1, vi x), (2, vi z)]) (by decide +kernel) hfl (Nat.le_of_ble_eq_true rfl) rfl rfl ?_
  intro p e s m args below meth c A C hex hnm
  generalize hQ : vx_MQ below (Qo D (fun v ws2 => kDP x z = 0 ∧ v = some (vi (ordF h q n rq x 5760 (fo h q) z)) ∧ ∃ M2, ws2 = cl cy (sa 100) ad n M2 ∧ CI h td n q rq nd M2) A) (Xo D (fun E ws2 => ((E = xIO ∧ kDP x z = 1)) ∧ ∃ M2, ws2 = cl cy (sa 100) ad n M2 ∧ CI h td n q rq nd M2) A) args s 6 36 A = Q
  replace hQ := hQ.symm
  obtain ⟨hc, ⟨htd, td0, td1⟩, hn, hR⟩ := id hci
  obtain ⟨hxl, hxr⟩ := hx
  obtain ⟨hzl, hzr⟩ := hz
  refine V.iload_n C dX2_order_0 1 rfl ?_
  refine V.callS C (As := [vi x]) (st := []) (wr := []) kS_X2_31 (c_checkDay l D cy sa hfl _ x ⟨by omega, by omega⟩) rfl rfl rfl (Nat.le_of_ble_eq_true rfl) ⟨by decide, by decide⟩ ⟨by decide, by decide⟩ dX2_order_1 (fun E wsx hx => ?_) (fun v1 w2 r3 => ?_)
  · skip
    obtain ⟨rfl, rfl, hx1⟩ := hx
    rw [hQ]
    exact VX.out C hex (by decide) (by decide) ⟨⟨rfl, kDP_1 (Or.inl hx1)⟩, M, rfl, hci⟩
  · skip
    obtain ⟨rfl, hw2, gx0, gx1⟩ := r3
    rw [hw2]
    show V D 6 A p l e (rmL 8 6 36) s m args below meth c Q 1 6 (cl cy (sa 100) ad n M) 4 [(0, .ref (ad 0)), (1, vi x), (2, vi z)] []
    refine V.iload_n C dX2_order_4 2 rfl ?_
    refine V.callS C (As := [vi z]) (st := []) (wr := []) kS_X2_110 (c_checkPlace l D cy sa hfl _ z ⟨by omega, by omega⟩) rfl rfl rfl (Nat.le_of_ble_eq_true rfl) ⟨by decide, by decide⟩ ⟨by decide, by decide⟩ dX2_order_5 (fun E wsx hx => ?_) (fun v4 w5 r6 => ?_)
    · skip
      obtain ⟨rfl, rfl, hx1⟩ := hx
      rw [hQ]
      exact VX.out C hex (by decide) (by decide) ⟨⟨rfl, kDP_1 (Or.inr hx1)⟩, M, rfl, hci⟩
    · skip
      obtain ⟨rfl, hw5, gz0⟩ := r6
      rw [hw5]
      show V D 6 A p l e (rmL 8 6 36) s m args below meth c Q 2 12 (cl cy (sa 100) ad n M) 8 [(0, .ref (ad 0)), (1, vi x), (2, vi z)] []
      refine V.aload_n C dX2_order_8 0 rfl ?_
      refine V.callV C (As := []) (st := []) (wr := []) kV_X2_138 (c_foreseeOpenDuties l D cy sa hfl ad n M h td q rq nd hci) rfl 0 cl_0 rfl rfl rfl (Nat.le_of_ble_eq_true rfl) ⟨by decide, by decide⟩ ⟨by decide, by decide⟩ dX2_order_9 (fun _ _ h => h.elim) (fun v7 w8 r9 => ?_)
      obtain ⟨rfl, M1, hw8, m1, m2⟩ := r9
      rw [hw8]
      have hci1 := hci.same10 m1
      show V D 6 A p l e (rmL 8 6 36) s m args below meth c Q 2 12 (cl cy (sa 100) ad n M1) 12 [(0, .ref (ad 0)), (1, vi x), (2, vi z)] []
      refine V.iconst C dX2_order_12 ?_
      refine V.istore_n C (lc2 := [(3, vi 0), (0, .ref (ad 0)), (1, vi x), (2, vi z)]) dX2_order_13 (by decide) rfl ?_
      have loop14 : ∀ (fz : Nat) (dn : Int) (M1 : Nat → Int → Int) (g : Nat → Int), (0 ≤ dn) → (dn ≤ 5760) → (∀ k j, (j ≠ 10 ∨ k < 8 ∨ k % 2 = 1) → M1 k j = M k j) → (∀ i : Nat, i < n → M1 (8 + 2 * i) 10 = g i) → (∀ i : Nat, i < n → -1 ≤ g i ∧ g i < 720) → (ordF h q n rq x 5760 (fo h q) z = ordF h q n rq x (5760 - dn).toNat g (z - dn)) → ((5760 - dn).toNat < fz) → V D 6 A p l e (rmL 8 6 36) s m args below meth c Q 2 12 (cl cy (sa 100) ad n M1) 14 [(3, vi dn), (0, .ref (ad 0)), (1, vi x), (2, vi z)] [] := by
        intro fz
        induction fz with
        | zero => intro dn M1 g e0 e1 m1 mg mr eO hf; exact absurd hf (Nat.not_lt_zero _)
        | succ fz ih14 =>
          intro dn M1 g e0 e1 m1 mg mr eO hf14
          have hci1 := hci.same10 m1
          have vn := nxt_rng (rq := rq) (x := x) ⟨gx0, gx1⟩ mr
          refine V.iload_n C dX2_order_14 0 rfl ?_
          refine V.sipush C dX2_order_15 (by decide) ?_
          refine V.icmp_ge C 73 dX2_order_18 (by decide) ⟨by omega, by omega⟩ ⟨by decide, by decide⟩ (fun h18 => ?_) (fun h18 => ?_)
          · skip
            refine V.iconst C dX2_order_73 ?_
            rw [hQ]
            exact V.iret C dX2_order_74 (by decide) (by decide) (⟨kDP_0 gx0 gx1 gz0, ri (by rw [eO, ordF_end (by omega)]), M1, rfl, hci1⟩)
          · skip
            refine V.aload_n C dX2_order_21 1 rfl ?_
            refine V.iload_n C dX2_order_22 2 rfl ?_
            refine V.callV C (As := [vi x]) (st := []) (wr := []) kV_X2_159 (c_nextInOrder l D cy sa hfl ad n M1 hn g mg mr rq hci1.rqs x gx0 gx1) rfl 0 cl_0 rfl rfl rfl (Nat.le_of_ble_eq_true rfl) ⟨by decide, by decide⟩ ⟨by decide, by decide⟩ dX2_order_23 (fun _ _ h => h.elim) (fun v10 w11 r12 => ?_)
            obtain ⟨rfl, hw11⟩ := r12
            rw [hw11]
            show V D 6 A p l e (rmL 8 6 36) s m args below meth c Q 2 12 (cl cy (sa 100) ad n M1) 26 [(3, vi dn), (0, .ref (ad 0)), (1, vi x), (2, vi z)] [vi (nxt n rq x g)]
            refine V.istore C (lc2 := [(4, vi (nxt n rq x g)), (3, vi dn), (0, .ref (ad 0)), (1, vi x), (2, vi z)]) dX2_order_26 (by decide) rfl ?_
            refine V.iload C dX2_order_28 0 rfl ?_
            refine V.iconst C dX2_order_30 ?_
            refine V.icmp_eq C 39 dX2_order_31 (by decide) ⟨by omega, by omega⟩ ⟨by decide, by decide⟩ (fun h31 => ?_) (fun h31 => ?_)
            · skip
              refine V.iload C dX2_order_39 0 rfl ?_
              rw [hQ]
              exact V.iret C dX2_order_41 (by decide) (by decide) (⟨kDP_0 gx0 gx1 gz0, ri (by rw [eO, ordF_at (by omega)]; first | (rw [if_pos h31, h31]; done) | (rw [if_neg h31, if_pos (by omega)]; done)), M1, rfl, hci1⟩)
            · skip
              refine V.iload_n C dX2_order_34 1 rfl ?_
              refine V.iload_n C dX2_order_35 4 rfl ?_
              refine V.icmp_ne C 42 dX2_order_36 (by decide) ⟨by omega, by omega⟩ ⟨by omega, by omega⟩ (fun h36 => ?_) (fun h36 => ?_)
              · skip
                obtain ⟨r, hr9⟩ : ∃ r : Nat, nxt n rq x g = (r : Int) := ⟨(nxt n rq x g).toNat, by omega⟩
                have hr : r < n := by omega
                rw [hr9]
                have gr := mr r hr
                refine V.aload_n C dX2_order_42 2 rfl ?_
                refine V.iload C dX2_order_43 0 rfl ?_
                refine V.callV C (As := [vi (r : Int)]) (st := []) (wr := []) kV_X2_86 (c_ruleAt_ok l D cy sa hfl ad n M1 hn r hr) rfl 0 cl_0 rfl rfl rfl (Nat.le_of_ble_eq_true rfl) ⟨by decide, by decide⟩ ⟨by decide, by decide⟩ dX2_order_45 (fun _ _ h => h.elim) (fun v13 w14 r15 => ?_)
                obtain ⟨rfl, hw14⟩ := r15
                rw [hw14]
                show V D 6 A p l e (rmL 8 6 36) s m args below meth c Q 2 12 (cl cy (sa 100) ad n M1) 48 [(4, vi (r : Int)), (3, vi dn), (0, .ref (ad 0)), (1, vi x), (2, vi z)] [.ref (ad (8 + 2 * r))]
                refine V.astore C (lc2 := [(5, .ref (ad (8 + 2 * r))), (4, vi (r : Int)), (3, vi dn), (0, .ref (ad 0)), (1, vi x), (2, vi z)]) dX2_order_48 (by decide) rfl ?_
                refine V.aload C dX2_order_50 0 rfl ?_
                refine V.aload C dX2_order_52 0 rfl ?_
                refine V.aload C dX2_order_54 0 rfl ?_
                refine V.getf C (v := vi (g r)) (8 + 2 * r) (cl_r hr) rfl inX1 10 (by decide) fl_X2_162 (fun _ h => h) (by show some _ = some _; rw [mg r hr]) dX2_order_56 ?_
                refine V.iconst C dX2_order_59 ?_
                refine V.iadd C dX2_order_60 ?_
                refine V.callV C (As := [vi ((g r) + 1)]) (st := [.ref (ad (8 + 2 * r))]) (wr := []) kV_X2_120 (c_firstDueFrom l D cy sa hfl ad n M1 r hr _ (hci1.2.2.2 r hr).2.2.1 (g r + 1) (by omega) (by omega)) rfl (8 + 2 * r) (cl_r hr) rfl rfl rfl (Nat.le_of_ble_eq_true rfl) ⟨by decide, by decide⟩ ⟨by decide, by decide⟩ dX2_order_61 (fun _ _ h => h.elim) (fun v16 w17 r18 => ?_)
                obtain ⟨rfl, hw17⟩ := r18
                rw [hw17]
                show V D 6 A p l e (rmL 8 6 36) s m args below meth c Q 2 12 (cl cy (sa 100) ad n M1) 64 [(5, .ref (ad (8 + 2 * r))), (4, vi (r : Int)), (3, vi dn), (0, .ref (ad 0)), (1, vi x), (2, vi z)] [vi (fst (dueR h (q r)) (g r + 1)), .ref (ad (8 + 2 * r))]
                refine V.putf C (v := vi (fst (dueR h (q r)) (g r + 1))) (ty := .int) (8 + 2 * r) (cl_r hr) rfl inX1 tyX1 tyX1_ok nmX1 10 (by decide) fl_X2_162 (fun _ h => h) rfl (by decide +kernel) rfl rfl (Nat.le_of_ble_eq_true rfl) dX2_order_64 (put_r (q := r) (by decide)) ?_
                refine V.iinc C (lc2 := [(3, vi (dn + 1)), (5, .ref (ad (8 + 2 * r))), (4, vi (r : Int)), (0, .ref (ad 0)), (1, vi x), (2, vi z)]) dX2_order_67 2 rfl (by decide) rfl ?_
                refine V.goto C 14 dX2_order_70 (by decide) ?_
                exact V.sub [0, 3, 4, 5] rfl (ih14 (dn + 1) (upM M1 (8 + 2 * r) 10 (fst (dueR h (q r)) (g r + 1))) (adv h q (r : Int) g) (by omega) (by omega) (fun k j hkj => (upM_n (by omega)).trans (m1 k j hkj)) (fun i hi => by
                      by_cases c : i = r
                      · subst c; rw [upM_s]; simp [adv]
                      · rw [upM_n (Or.inl (by omega)), mg i hi]; simp [adv, c]) (fun i hi => by
                      have v1 := fst_rng (p := dueR h (q i)) (a := g i + 1)
                      have v2 := mr i hi
                      unfold adv
                      split <;> omega) (by rw [eO, ordF_at (by omega), if_neg (by omega), if_neg (by omega), hr9]; congr 1; omega) (by omega))
              · skip
                refine V.iload C dX2_order_39 0 rfl ?_
                rw [hQ]
                exact V.iret C dX2_order_41 (by decide) (by decide) (⟨kDP_0 gx0 gx1 gz0, ri (by rw [eO, ordF_at (by omega)]; first | (rw [if_pos h31, h31]; done) | (rw [if_neg h31, if_pos (by omega)]; done)), M1, rfl, hci1⟩)
      exact loop14 _ 0 M1 (fo h q) (by omega) (by omega) m1 m2 (fun i _ => fo_rng h q i) (by rw [Int.sub_zero, Int.sub_zero]; rfl) (Nat.lt_succ_self _)
set_option maxHeartbeats 4000000 in
set_option maxRecDepth 100000 in
theorem c_fill (l : Launch) (D : va_G) (cy : Nat → ClassId) (sa : Nat → Addr) (hfl : l.stackTraces = false) (ad : Nat → Nat) (n : Nat) (M : Nat → Int → Int) : Ct l D cy sa yJ7_fill_53178 cJ7_fill_53178 4 none 0 0 0 (cl cy (sa 100) ad n M) [.ref (ad 6), vi 0] (fun v ws2 => v = none ∧ ∃ M2, ws2 = cl cy (sa 100) ad n M2 ∧ (∀ k, k ≠ 6 → M2 k = M k) ∧ ∀ j, 0 ≤ j → j < 720 → M2 6 j = 0) no_x := by
  refine Ct.of (own := RJ7) (lc := [(0, .ref (ad 6)), (1, vi 0)]) (by decide +kernel) hfl (Nat.le_of_ble_eq_true rfl) rfl rfl ?_
  intro p e s m args below meth c A C hex hnm
  generalize hQ : vx_MQ below (Qo D (fun v ws2 => v = none ∧ ∃ M2, ws2 = cl cy (sa 100) ad n M2 ∧ (∀ k, k ≠ 6 → M2 k = M k) ∧ ∀ j, 0 ≤ j → j < 720 → M2 6 j = 0) A) (Xo D no_x A) args s 0 0 A = Q
  replace hQ := hQ.symm
  refine V.iconst C dJ7_fill_53178_0 ?_
  refine V.istore_n C (lc2 := [(2, vi 0), (0, .ref (ad 6)), (1, vi 0)]) dJ7_fill_53178_1 (by decide) rfl ?_
  refine V.aload_n C dJ7_fill_53178_2 1 rfl ?_
  refine V.alen C (z := 720) 6 0 cl_6 rfl rfl dJ7_fill_53178_3 ?_
  refine V.istore_n C (lc2 := [(3, vi 720), (2, vi 0), (0, .ref (ad 6)), (1, vi 0)]) dJ7_fill_53178_4 (by decide) rfl ?_
  have loop5 : ∀ (fz : Nat) (d : Int) (M1 : Nat → Int → Int), (0 ≤ d) → (d ≤ 720) → (∀ k, k ≠ 6 → M1 k = M k) → (∀ j, 0 ≤ j → j < d → M1 6 j = 0) → ((720 - d).toNat < fz) → V D 4 A p l e (rmL 0 0 0) s m args below meth c Q 0 0 (cl cy (sa 100) ad n M1) 5 [(3, vi 720), (2, vi d), (0, .ref (ad 6)), (1, vi 0)] [] := by
    intro fz
    induction fz with
    | zero => intro d M1 e0 e1 e2 e3 hf; exact absurd hf (Nat.not_lt_zero _)
    | succ fz ih5 =>
      intro d M1 e0 e1 e2 e3 hf5
      refine V.iload_n C dJ7_fill_53178_5 1 rfl ?_
      refine V.iload_n C dJ7_fill_53178_6 0 rfl ?_
      refine V.icmp_ge C 20 dJ7_fill_53178_7 (by decide) ⟨by omega, by omega⟩ ⟨by decide, by decide⟩ (fun h7 => ?_) (fun h7 => ?_)
      · skip
        rw [hQ]
        exact V.vret C dJ7_fill_53178_20 (by decide) (by decide) (⟨rfl, M1, rfl, e2, fun j h1 h2 => e3 j h1 (by omega)⟩)
      · skip
        refine V.aload_n C dJ7_fill_53178_10 2 rfl ?_
        refine V.iload_n C dJ7_fill_53178_11 1 rfl ?_
        refine V.iload_n C dJ7_fill_53178_12 3 rfl ?_
        refine V.iast C 6 cl_6 (by omega) (by omega) (by decide) dJ7_fill_53178_13 (put_6 (by omega)) ?_
        refine V.iinc C (lc2 := [(2, vi (d + 1)), (3, vi 720), (0, .ref (ad 6)), (1, vi 0)]) dJ7_fill_53178_14 1 rfl (by decide) rfl ?_
        refine V.goto C 5 dJ7_fill_53178_17 (by decide) ?_
        exact V.sub [1, 0, 2, 3] rfl (ih5 (d + 1) (upM M1 6 d 0) (by omega) (by omega) (fun k hk => (upM_off hk).trans (e2 k hk)) (fun j h1 h2 => by
              by_cases c : j = d
              · subst c; exact upM_s _ _ _ _
              · rw [upM_n (Or.inr c)]; exact e3 j h1 (by omega)) (by omega))
  exact loop5 _ 0 M (by omega) (by omega) (fun _ _ => rfl) (fun j h1 h2 => by omega) (Nat.lt_succ_self _)
theorem lay1_put {w : Int → Bool} {L : Int → Int} {M : Nat → Int → Int} {cap x d0 e d : Int} (h1 : ld w L cap e x d0 = d) (h2 : ¬ d = -1) (hL : ∀ j, 0 ≤ j → j < 720 → M 6 j = L j) : ∀ j, 0 ≤ j → j < 720 → upM M 6 d (L d + e) 6 j = (lay1 w cap x d0 e (L, 0)).1 j := by
  intro j g1 g2
  rw [lay1, h1, if_neg h2]
  show _ = if j = d then L j + e else L j
  by_cases c : j = d
  · subst c; rw [upM_s, if_pos rfl]
  · rw [upM_n (Or.inr c), if_neg c]; exact hL j g1 g2
set_option maxHeartbeats 4000000 in
set_option maxRecDepth 100000 in
theorem c_layEffort (l : Launch) (D : va_G) (cy : Nat → ClassId) (sa : Nat → Addr) (hfl : l.stackTraces = false) (ad : Nat → Nat) (n : Nat) (M : Nat → Int → Int) (h : Int → Bool) (hc : CalI h M) (L : Int → Int) (x d0 cap e9 : Int) (h0 : 0 ≤ x) (h1 : x ≤ d0) (h2 : d0 < 720) (h3 : 1 ≤ cap) (h4 : cap ≤ 99) (h5 : 1 ≤ e9) (h6 : e9 ≤ 9) (hL : ∀ j, 0 ≤ j → j < 720 → M 6 j = L j) (hLr : ∀ j, 0 ≤ j → j < 720 → 0 ≤ L j ∧ L j ≤ 99) : Ct l D cy sa yX2_layEffort cX2_layEffort 6 (some .boolean) 2 0 0 (cl cy (sa 100) ad n M) [.ref (ad 0), vi x, vi d0, vi cap, vi e9] (fun v ws2 => v = some (vi (bI (!decide (ld (wk h) L cap e9 x d0 = -1)))) ∧ ∃ M2, ws2 = cl cy (sa 100) ad n M2 ∧ (∀ k, k ≠ 6 → M2 k = M k) ∧ ∀ j, 0 ≤ j → j < 720 → M2 6 j = (lay1 (wk h) cap x d0 e9 (L, 0)).1 j) no_x := by
  refine Ct.of (own := RX2) (lc := [(0, .ref (ad 0)), (1, vi x), (2, vi d0), (3, vi cap), (4, vi e9)]) (by decide +kernel) hfl (Nat.le_of_ble_eq_true rfl) rfl rfl ?_
  intro p e s m args below meth c A C hex hnm
  generalize hQ : vx_MQ below (Qo D (fun v ws2 => v = some (vi (bI (!decide (ld (wk h) L cap e9 x d0 = -1)))) ∧ ∃ M2, ws2 = cl cy (sa 100) ad n M2 ∧ (∀ k, k ≠ 6 → M2 k = M k) ∧ ∀ j, 0 ≤ j → j < 720 → M2 6 j = (lay1 (wk h) cap x d0 e9 (L, 0)).1 j) A) (Xo D no_x A) args s 0 0 A = Q
  replace hQ := hQ.symm
  skip
  refine V.iload_n C dX2_layEffort_0 2 rfl ?_
  refine V.istore C (lc2 := [(5, vi d0), (0, .ref (ad 0)), (1, vi x), (2, vi d0), (3, vi cap), (4, vi e9)]) dX2_layEffort_1 (by decide) rfl ?_
  have loop3 : ∀ (fz : Nat) (d : Int), (x ≤ d + 1) → (d ≤ d0) → (ld (wk h) L cap e9 x d0 = ld (wk h) L cap e9 x d) → ((d + 1 - x).toNat < fz) → V D 6 A p l e (rmL 2 0 0) s m args below meth c Q 0 0 (cl cy (sa 100) ad n M) 3 [(5, vi d), (0, .ref (ad 0)), (1, vi x), (2, vi d0), (3, vi cap), (4, vi e9)] [] := by
    intro fz
    induction fz with
    | zero => intro d e0 e1 e2 hf; exact absurd hf (Nat.not_lt_zero _)
    | succ fz ih3 =>
      intro d e0 e1 e2 hf3
      refine V.iload C dX2_layEffort_3 0 rfl ?_
      refine V.iload_n C dX2_layEffort_5 2 rfl ?_
      refine V.icmp_lt C 55 dX2_layEffort_6 (by decide) ⟨by omega, by omega⟩ ⟨by omega, by omega⟩ (fun h6 => ?_) (fun h6 => ?_)
      · skip
        refine V.iconst C dX2_layEffort_55 ?_
        show V D 6 A p l e (rmL 2 0 0) s m args below meth c Q 0 0 (cl cy (sa 100) ad n M) 56 [(5, vi d), (0, .ref (ad 0)), (1, vi x), (2, vi d0), (3, vi cap), (4, vi e9)] [vi (bI false)]
        rw [hQ]
        exact V.zret C dX2_layEffort_56 (by decide) (by decide) (⟨rb (by rw [e2, ld_end (by omega)]; rfl), M, rfl, fun _ _ => rfl, fun j h1 h2 => by rw [lay1, e2, ld_end (by omega), if_pos rfl]; exact hL j h1 h2⟩)
      · skip
        refine V.aload_n C dX2_layEffort_9 1 rfl ?_
        refine V.getf C (v := .ref (ad 1)) 0 cl_0 rfl inX2 0 (by decide) fl_X2_12 (fun _ h => h) rfl dX2_layEffort_10 ?_
        refine V.iload C dX2_layEffort_13 0 rfl ?_
        refine V.callV C (As := [vi d]) (st := []) (wr := []) kV_X2_53 (c_works l D cy sa hfl ad n M h d (by omega) (by omega) hc.1) rfl 1 cl_1 rfl rfl rfl (Nat.le_of_ble_eq_true rfl) ⟨by decide, by decide⟩ ⟨by decide, by decide⟩ dX2_layEffort_15 (fun _ _ h => h.elim) (fun v1 w2 r3 => ?_)
        obtain ⟨rfl, hw2⟩ := r3
        rw [hw2]
        show V D 6 A p l e (rmL 2 0 0) s m args below meth c Q 0 0 (cl cy (sa 100) ad n M) 18 [(5, vi d), (0, .ref (ad 0)), (1, vi x), (2, vi d0), (3, vi cap), (4, vi e9)] [vi (bI (wk h d))]
        refine V.if_eqB C 49 dX2_layEffort_18 (by decide) (fun h18 => ?_) (fun h18 => ?_)
        · skip
          refine V.iinc C (lc2 := [(5, vi (d + (-1))), (0, .ref (ad 0)), (1, vi x), (2, vi d0), (3, vi cap), (4, vi e9)]) dX2_layEffort_49 0 rfl (by decide) rfl ?_
          refine V.goto C 3 dX2_layEffort_52 (by decide) ?_
          exact ih3 (d + (-1)) (by omega) (by omega) (by first | (rw [e2, ld_at (by omega), if_neg (fun z => by rw [h18] at z; exact absurd z.1 (by decide))]; rfl) | (rw [e2, ld_at (by omega), if_neg (fun z => by omega)]; rfl)) (by omega)
        · skip
          have hLd := hL d (by omega) (by omega)
          have hLd2 := hLr d (by omega) (by omega)
          refine V.aload_n C dX2_layEffort_21 1 rfl ?_
          refine V.getf C (v := .ref (ad 6)) 0 cl_0 rfl inX2 3 (by decide) fl_X2_27 (fun _ h => h) rfl dX2_layEffort_22 ?_
          refine V.iload C dX2_layEffort_25 0 rfl ?_
          refine V.iald C (v := L d) 6 cl_6 (by omega) (by omega) (by decide) (ld_ar (by omega) hLd) dX2_layEffort_27 ?_
          refine V.iload C dX2_layEffort_28 5 rfl ?_
          refine V.iadd C dX2_layEffort_30 ?_
          refine V.iload_n C dX2_layEffort_31 4 rfl ?_
          refine V.icmp_gt C 49 dX2_layEffort_32 (by decide) ⟨by omega, by omega⟩ ⟨by omega, by omega⟩ (fun h32 => ?_) (fun h32 => ?_)
          · skip
            refine V.iinc C (lc2 := [(5, vi (d + (-1))), (0, .ref (ad 0)), (1, vi x), (2, vi d0), (3, vi cap), (4, vi e9)]) dX2_layEffort_49 0 rfl (by decide) rfl ?_
            refine V.goto C 3 dX2_layEffort_52 (by decide) ?_
            exact ih3 (d + (-1)) (by omega) (by omega) (by first | (rw [e2, ld_at (by omega), if_neg (fun z => by rw [h18] at z; exact absurd z.1 (by decide))]; rfl) | (rw [e2, ld_at (by omega), if_neg (fun z => by omega)]; rfl)) (by omega)
          · skip
            refine V.aload_n C dX2_layEffort_35 1 rfl ?_
            refine V.getf C (v := .ref (ad 6)) 0 cl_0 rfl inX2 3 (by decide) fl_X2_27 (fun _ h => h) rfl dX2_layEffort_36 ?_
            refine V.iload C dX2_layEffort_39 0 rfl ?_
            refine V.dup2 C dX2_layEffort_41 rfl rfl ?_
            refine V.iald C (v := L d) 6 cl_6 (by omega) (by omega) (by decide) (ld_ar (by omega) hLd) dX2_layEffort_42 ?_
            refine V.iload C dX2_layEffort_43 5 rfl ?_
            refine V.iadd C dX2_layEffort_45 ?_
            refine V.iast C 6 cl_6 (by omega) (by omega) (by decide) dX2_layEffort_46 (put_6 (by omega)) ?_
            refine V.iconst C dX2_layEffort_47 ?_
            show V D 6 A p l e (rmL 2 0 0) s m args below meth c Q 0 0 (cl cy (sa 100) ad n (upM M 6 d ((L d) + e9))) 48 [(5, vi d), (0, .ref (ad 0)), (1, vi x), (2, vi d0), (3, vi cap), (4, vi e9)] [vi (bI true)]
            rw [hQ]
            exact V.zret C dX2_layEffort_48 (by decide) (by decide) (⟨rb (by rw [e2, ld_at (by omega), if_pos ⟨h18, by omega⟩]; simp; omega), _, rfl, fun k hk => upM_off hk, lay1_put (by rw [e2, ld_at (by omega), if_pos ⟨h18, by omega⟩]) (by omega) hL⟩)
  exact loop3 _ d0 (by omega) (by omega) rfl (Nat.lt_succ_self _)
def lvl (h : Int → Bool) (q : Nat → Nat → Int) (n : Nat) (cap x z : Int) : (Int → Int) × Int := lay h q n cap x (8 * (z + 1)) (8 * x) (fun _ => 0, 0)
theorem lay1_1 {w : Int → Bool} {cap x d e u : Int} {L : Int → Int} : (lay1 w cap x d e (L, u)).1 = (lay1 w cap x d e (L, 0)).1 := by simp only [lay1]; split <;> rfl
theorem lay1_rng {w : Int → Bool} {cap x d e : Int} {L : Int → Int} (hx : 0 ≤ x) (hd : d < 720) (hc : cap ≤ 99) (he : 0 ≤ e) (hL : ∀ j, 0 ≤ j → j < 720 → 0 ≤ L j ∧ L j ≤ 99) : ∀ j, 0 ≤ j → j < 720 → 0 ≤ (lay1 w cap x d e (L, 0)).1 j ∧ (lay1 w cap x d e (L, 0)).1 j ≤ 99 := by
  intro j h1 h2
  have hj := hL j h1 h2
  have key : ∀ k d, ldF w L cap e x k d = -1 ∨ L (ldF w L cap e x k d) + e ≤ cap := by
    intro k
    induction k with
    | zero => intro d; exact Or.inl rfl
    | succ k ih =>
      intro d
      simp only [ldF]
      split
      · rename_i hh; exact Or.inr hh.2
      · exact ih (d - 1)
  simp only [lay1]
  split
  · exact hj
  · rename_i hne
    show 0 ≤ (if j = ld w L cap e x d then L j + e else L j) ∧ (if j = ld w L cap e x d then L j + e else L j) ≤ 99
    split
    · rename_i hjd
      rcases key (d + 1 - x).toNat d with hk | hk
      · exact absurd hk hne
      · have hk2 : L (ld w L cap e x d) + e ≤ cap := hk
        rw [← hjd] at hk2
        omega
    · exact hj
theorem lay1_t {w : Int → Bool} {cap x d e u : Int} {L : Int → Int} (hb : (!decide (ld w L cap e x d = -1)) = true) : lay1 w cap x d e (L, u) = ((lay1 w cap x d e (L, 0)).1, u) := by
  have h1 : ¬ ld w L cap e x d = -1 := by simpa using hb
  simp only [lay1, if_neg h1]
theorem lay1_f {w : Int → Bool} {cap x d e u : Int} {L : Int → Int} (hb : (!decide (ld w L cap e x d = -1)) = false) : lay1 w cap x d e (L, u) = ((lay1 w cap x d e (L, 0)).1, u + e) := by
  have h1 : ld w L cap e x d = -1 := by simpa using hb
  simp only [lay1, if_pos h1]
theorem U8_d {n r : Nat} {d : Int} (hr : r < n) (hn : n ≤ 8) : (8 * d + (r : Int)) / 8 = d := by omega
theorem U8_r {n r : Nat} {d : Int} (hr : r < n) (hn : n ≤ 8) : ((8 * d + (r : Int)) % 8).toNat = r := by omega
set_option maxHeartbeats 4000000 in
set_option maxRecDepth 100000 in
theorem c_layEfforts (l : Launch) (D : va_G) (cy : Nat → ClassId) (sa : Nat → Addr) (hfl : l.stackTraces = false) (ad : Nat → Nat) (n : Nat) (M : Nat → Int → Int) (h : Int → Bool) (td : Int) (q : Nat → Nat → Int) (rq nd : Nat → Nat) (hci : CI h td n q rq nd M) (x z cap : Int) (x0 : 0 ≤ x) (x1 : x ≤ z) (z1 : z < 720) (c0 : 1 ≤ cap) (c1 : cap ≤ 99) : Ct l D cy sa yX2_layEfforts cX2_layEfforts 8 (some .int) 4 0 0 (cl cy (sa 100) ad n M) [.ref (ad 0), vi x, vi z, vi cap] (fun v ws2 => v = some (vi (lvl h q n cap x z).2) ∧ ∃ M2, ws2 = cl cy (sa 100) ad n M2 ∧ (∀ k, k ≠ 6 → M2 k = M k) ∧ ∀ j, 0 ≤ j → j < 720 → M2 6 j = (lvl h q n cap x z).1 j) no_x := by
  refine Ct.of (own := RX2) (lc := [(0, .ref (ad 0)), (1, vi x), (2, vi z), (3, vi cap)]) (by decide +kernel) hfl (Nat.le_of_ble_eq_true rfl) rfl rfl ?_
  intro p e s m args below meth c A C hex hnm
  generalize hQ : vx_MQ below (Qo D (fun v ws2 => v = some (vi (lvl h q n cap x z).2) ∧ ∃ M2, ws2 = cl cy (sa 100) ad n M2 ∧ (∀ k, k ≠ 6 → M2 k = M k) ∧ ∀ j, 0 ≤ j → j < 720 → M2 6 j = (lvl h q n cap x z).1 j) A) (Xo D no_x A) args s 0 0 A = Q
  replace hQ := hQ.symm
  obtain ⟨hc, ⟨htd, td0, td1⟩, hn, hR⟩ := id hci
  refine V.aload_n C dX2_layEfforts_0 0 rfl ?_
  refine V.getf C (v := .ref (ad 6)) 0 cl_0 rfl inX2 3 (by decide) fl_X2_27 (fun _ h => h) rfl dX2_layEfforts_1 ?_
  refine V.iconst C dX2_layEfforts_4 ?_
  refine V.callS C (As := [.ref (ad 6), vi 0]) (st := []) (wr := []) kS_X2_203 (c_fill l D cy sa hfl ad n M) rfl rfl rfl (Nat.le_of_ble_eq_true rfl) ⟨by decide, by decide⟩ ⟨by decide, by decide⟩ dX2_layEfforts_5 (fun _ _ h => h.elim) (fun v1 w2 r3 => ?_)
  obtain ⟨rfl, M2, hw2, m1, m2⟩ := r3
  rw [hw2]
  show V D 8 A p l e (rmL 4 0 0) s m args below meth c Q 0 0 (cl cy (sa 100) ad n M2) 8 [(0, .ref (ad 0)), (1, vi x), (2, vi z), (3, vi cap)] []
  refine V.iconst C dX2_layEfforts_8 ?_
  refine V.istore C (lc2 := [(4, vi 0), (0, .ref (ad 0)), (1, vi x), (2, vi z), (3, vi cap)]) dX2_layEfforts_9 (by decide) rfl ?_
  refine V.iload_n C dX2_layEfforts_11 2 rfl ?_
  refine V.istore C (lc2 := [(5, vi x), (4, vi 0), (0, .ref (ad 0)), (1, vi x), (2, vi z), (3, vi cap)]) dX2_layEfforts_12 (by decide) rfl ?_
  have loop14 : ∀ (fz : Nat) (d : Int) (u : Int) (M1 : Nat → Int → Int) (L : Int → Int), (x ≤ d) → (d ≤ z + 1) → (∀ k, k ≠ 6 → M1 k = M k) → (∀ j, 0 ≤ j → j < 720 → M1 6 j = L j) → (∀ j, 0 ≤ j → j < 720 → 0 ≤ L j ∧ L j ≤ 99) → (lvl h q n cap x z = lay h q n cap x (8 * (z + 1)) (8 * d) (L, u)) → ((z + 1 - d).toNat < fz) → V D 8 A p l e (rmL 4 0 0) s m args below meth c Q 0 0 (cl cy (sa 100) ad n M1) 14 [(5, vi d), (4, vi u), (0, .ref (ad 0)), (1, vi x), (2, vi z), (3, vi cap)] [] := by
    intro fz
    induction fz with
    | zero => intro d u M1 L e0 e1 e2 e3 e4 e5 hf; exact absurd hf (Nat.not_lt_zero _)
    | succ fz ih14 =>
      intro d u M1 L e0 e1 e2 e3 e4 e5 hf14
      refine V.iload C dX2_layEfforts_14 0 rfl ?_
      refine V.iload_n C dX2_layEfforts_16 4 rfl ?_
      refine V.icmp_gt C 97 dX2_layEfforts_17 (by decide) ⟨by omega, by omega⟩ ⟨by omega, by omega⟩ (fun h17 => ?_) (fun h17 => ?_)
      · skip
        refine V.iload C dX2_layEfforts_97 1 rfl ?_
        rw [hQ]
        exact V.iret C dX2_layEfforts_99 (by decide) (by decide) (⟨ri (by rw [e5, lay_end (by omega)]), M1, rfl, e2, fun j h1 h2 => by rw [e3 j h1 h2, e5, lay_end (by omega)]⟩)
      · skip
        refine V.iconst C dX2_layEfforts_20 ?_
        refine V.istore C (lc2 := [(6, vi 0), (5, vi d), (4, vi u), (0, .ref (ad 0)), (1, vi x), (2, vi z), (3, vi cap)]) dX2_layEfforts_21 (by decide) rfl ?_
        have loop23 : ∀ (fz : Nat) (i : Int) (u : Int) (M1 : Nat → Int → Int) (L : Int → Int), (0 ≤ i) → (i ≤ n) → (∀ k, k ≠ 6 → M1 k = M k) → (∀ j, 0 ≤ j → j < 720 → M1 6 j = L j) → (∀ j, 0 ≤ j → j < 720 → 0 ≤ L j ∧ L j ≤ 99) → (lvl h q n cap x z = lay h q n cap x (8 * (z + 1)) (8 * d + i) (L, u)) → (((n : Int) - i).toNat < fz) → V D 8 A p l e (rmL 4 0 0) s m args below meth c Q 0 0 (cl cy (sa 100) ad n M1) 23 [(6, vi i), (4, vi u), (5, vi d), (0, .ref (ad 0)), (1, vi x), (2, vi z), (3, vi cap)] [] := by
          intro fz
          induction fz with
          | zero => intro i u M1 L f0 f1 f2 f3 f4 f5 hf; exact absurd hf (Nat.not_lt_zero _)
          | succ fz ih23 =>
            intro i u M1 L f0 f1 f2 f3 f4 f5 hf23
            have hci1 := hci.same f2
            refine V.iload C dX2_layEfforts_23 0 rfl ?_
            refine V.aload_n C dX2_layEfforts_25 3 rfl ?_
            refine V.getf C (v := .ref (ad 5)) 0 cl_0 rfl inX2 1 (by decide) fl_X2_19 (fun _ h => h) rfl dX2_layEfforts_26 ?_
            refine V.callV C (As := []) (st := [vi i]) (wr := []) kV_X2_39 (c_size l D cy sa hfl ad n M1) rfl 5 cl_5 rfl rfl rfl (Nat.le_of_ble_eq_true rfl) ⟨by decide, by decide⟩ ⟨by decide, by decide⟩ dX2_layEfforts_29 (fun _ _ h => h.elim) (fun v4 w5 r6 => ?_)
            obtain ⟨rfl, hw5⟩ := r6
            rw [hw5]
            show V D 8 A p l e (rmL 4 0 0) s m args below meth c Q 0 0 (cl cy (sa 100) ad n M1) 32 [(6, vi i), (4, vi u), (5, vi d), (0, .ref (ad 0)), (1, vi x), (2, vi z), (3, vi cap)] [vi (n : Int), vi i]
            refine V.icmp_ge C 91 dX2_layEfforts_32 (by decide) ⟨by omega, by omega⟩ ⟨by omega, by omega⟩ (fun h32 => ?_) (fun h32 => ?_)
            · skip
              refine V.iinc C (lc2 := [(5, vi (d + 1)), (6, vi i), (4, vi u), (0, .ref (ad 0)), (1, vi x), (2, vi z), (3, vi cap)]) dX2_layEfforts_91 2 rfl (by decide) rfl ?_
              refine V.goto C 14 dX2_layEfforts_94 (by decide) ?_
              exact V.sub [0, 2, 3, 4, 5, 6] rfl (ih14 (d + 1) u M1 L (by omega) (by omega) f2 f3 f4 (by rw [f5]; exact lay_skip (fun t h1 h2 => U8_off (by omega) h2) (by omega) (by omega)) (by omega))
            · skip
              obtain ⟨r, rfl⟩ : ∃ r : Nat, i = (r : Int) := ⟨i.toNat, by omega⟩
              have hr : r < n := by omega
              obtain ⟨⟨-, -, -, hkr, -⟩, hpr, -⟩ := hci1.2.2.2 r hr
              have hpr3 := hpr.2.2.2.2.2.1
              refine V.aload_n C dX2_layEfforts_35 3 rfl ?_
              refine V.getf C (v := .ref (ad 5)) 0 cl_0 rfl inX2 1 (by decide) fl_X2_19 (fun _ h => h) rfl dX2_layEfforts_36 ?_
              refine V.iload C dX2_layEfforts_39 0 rfl ?_
              refine V.callV C (As := [vi (r : Int)]) (st := []) (wr := []) kV_X2_43 (c_get l D cy sa hfl ad n M1 r hr hn) rfl 5 cl_5 rfl rfl rfl (Nat.le_of_ble_eq_true rfl) ⟨by decide, by decide⟩ ⟨by decide, by decide⟩ dX2_layEfforts_41 (fun _ _ h => h.elim) (fun v7 w8 r9 => ?_)
              obtain ⟨rfl, hw8⟩ := r9
              rw [hw8]
              show V D 8 A p l e (rmL 4 0 0) s m args below meth c Q 0 0 (cl cy (sa 100) ad n M1) 44 [(6, vi (r : Int)), (4, vi u), (5, vi d), (0, .ref (ad 0)), (1, vi x), (2, vi z), (3, vi cap)] [.ref (ad (8 + 2 * r))]
              refine V.cast C (8 + 2 * r) (cl_r hr) rfl cl_X2_47 dX2_layEfforts_44 ?_
              refine V.astore C (lc2 := [(7, .ref (ad (8 + 2 * r))), (6, vi (r : Int)), (4, vi u), (5, vi d), (0, .ref (ad 0)), (1, vi x), (2, vi z), (3, vi cap)]) dX2_layEfforts_47 (by decide) rfl ?_
              refine V.aload C dX2_layEfforts_49 0 rfl ?_
              refine V.iload C dX2_layEfforts_51 3 rfl ?_
              refine V.callV C (As := [vi d]) (st := []) (wr := []) kV_X2_127 (c_isDueOn l D cy sa hfl ad n M1 r hr (dueR h (q r)) (hci1.2.2.2 r hr).2.2.1 d (by omega) (by omega)) rfl (8 + 2 * r) (cl_r hr) rfl rfl rfl (Nat.le_of_ble_eq_true rfl) ⟨by decide, by decide⟩ ⟨by decide, by decide⟩ dX2_layEfforts_53 (fun _ _ h => h.elim) (fun v10 w11 r12 => ?_)
              obtain ⟨rfl, hw11⟩ := r12
              rw [hw11]
              show V D 8 A p l e (rmL 4 0 0) s m args below meth c Q 0 0 (cl cy (sa 100) ad n M1) 56 [(7, .ref (ad (8 + 2 * r))), (6, vi (r : Int)), (4, vi u), (5, vi d), (0, .ref (ad 0)), (1, vi x), (2, vi z), (3, vi cap)] [vi (bI (dueR h (q r) d))]
              refine V.if_eqB C 85 dX2_layEfforts_56 (by decide) (fun h56 => ?_) (fun h56 => ?_)
              · skip
                refine V.iinc C (lc2 := [(6, vi ((r : Int) + 1)), (7, .ref (ad (8 + 2 * r))), (4, vi u), (5, vi d), (0, .ref (ad 0)), (1, vi x), (2, vi z), (3, vi cap)]) dX2_layEfforts_85 1 rfl (by decide) rfl ?_
                refine V.goto C 23 dX2_layEfforts_88 (by decide) ?_
                exact V.sub [0, 2, 3, 4, 5, 6, 7] rfl (ih23 ((r : Int) + 1) u M1 L (by omega) (by omega) f2 f3 f4 (by rw [f5, lay_at (by omega), U8_at hr hn, h56, if_neg (by decide)]; congr 1; omega) (by omega))
              · skip
                refine V.aload_n C dX2_layEfforts_59 4 rfl ?_
                refine V.iload_n C dX2_layEfforts_60 5 rfl ?_
                refine V.iload C dX2_layEfforts_61 3 rfl ?_
                refine V.iload_n C dX2_layEfforts_63 7 rfl ?_
                refine V.aload C dX2_layEfforts_64 0 rfl ?_
                refine V.getf C (v := vi (q r 3)) (8 + 2 * r) (cl_r hr) rfl inX1 3 (by decide) fl_X2_200 (fun _ h => h) (by show some _ = some _; rw [hkr]) dX2_layEfforts_66 ?_
                refine V.callV C (As := [vi x, vi d, vi cap, vi (q r 3)]) (st := []) (wr := []) kV_X2_209 (c_layEffort l D cy sa hfl ad n M1 h hci1.1 L x d cap (q r 3) (by omega) (by omega) (by omega) (by omega) (by omega) (by omega) (by omega) f3 f4) rfl 0 cl_0 rfl rfl rfl (Nat.le_of_ble_eq_true rfl) ⟨by decide, by decide⟩ ⟨by decide, by decide⟩ dX2_layEfforts_69 (fun _ _ h => h.elim) (fun v13 w14 r15 => ?_)
                obtain ⟨rfl, M3, hw14, m3, m4⟩ := r15
                rw [hw14]
                show V D 8 A p l e (rmL 4 0 0) s m args below meth c Q 0 0 (cl cy (sa 100) ad n M3) 72 [(7, .ref (ad (8 + 2 * r))), (6, vi (r : Int)), (4, vi u), (5, vi d), (0, .ref (ad 0)), (1, vi x), (2, vi z), (3, vi cap)] [vi (bI (!decide (ld (wk h) L cap (q r 3) x d = -1)))]
                refine V.if_neB C 85 dX2_layEfforts_72 (by decide) (fun h72 => ?_) (fun h72 => ?_)
                · skip
                  refine V.iinc C (lc2 := [(6, vi ((r : Int) + 1)), (7, .ref (ad (8 + 2 * r))), (4, vi u), (5, vi d), (0, .ref (ad 0)), (1, vi x), (2, vi z), (3, vi cap)]) dX2_layEfforts_85 1 rfl (by decide) rfl ?_
                  refine V.goto C 23 dX2_layEfforts_88 (by decide) ?_
                  exact V.sub [0, 2, 3, 4, 5, 6, 7] rfl (ih23 ((r : Int) + 1) u M3 ((lay1 (wk h) cap x d (q r 3) (L, 0)).1) (by omega) (by omega) (fun k hk => (m3 k hk).trans (f2 k hk)) m4 (lay1_rng (by omega) (by omega) (by omega) (by omega) f4) (by rw [f5, lay_at (by omega), U8_at hr hn, if_pos h56, show 8 * d + (r : Int) + 1 = 8 * d + ((r : Int) + 1) by omega, U8_d hr hn, U8_r hr hn]; first | (rw [lay1_t h72]; done) | (rw [lay1_f h72]; done)) (by omega))
                · skip
                  refine V.iload C dX2_layEfforts_75 2 rfl ?_
                  refine V.aload C dX2_layEfforts_77 0 rfl ?_
                  refine V.getf C (v := vi (q r 3)) (8 + 2 * r) (cl_r hr) rfl inX1 3 (by decide) fl_X2_200 (fun _ h => h) (by show some _ = some _; rw [m3 _ (show 8 + 2 * r ≠ 6 by omega), hkr]) dX2_layEfforts_79 ?_
                  refine V.iadd C dX2_layEfforts_82 ?_
                  refine V.istore C (lc2 := [(4, vi (u + (q r 3))), (7, .ref (ad (8 + 2 * r))), (6, vi (r : Int)), (5, vi d), (0, .ref (ad 0)), (1, vi x), (2, vi z), (3, vi cap)]) dX2_layEfforts_83 (by decide) rfl ?_
                  refine V.iinc C (lc2 := [(6, vi ((r : Int) + 1)), (4, vi (u + (q r 3))), (7, .ref (ad (8 + 2 * r))), (5, vi d), (0, .ref (ad 0)), (1, vi x), (2, vi z), (3, vi cap)]) dX2_layEfforts_85 2 rfl (by decide) rfl ?_
                  refine V.goto C 23 dX2_layEfforts_88 (by decide) ?_
                  exact V.sub [0, 1, 3, 4, 5, 6, 7] rfl (ih23 ((r : Int) + 1) (u + (q r 3)) M3 ((lay1 (wk h) cap x d (q r 3) (L, 0)).1) (by omega) (by omega) (fun k hk => (m3 k hk).trans (f2 k hk)) m4 (lay1_rng (by omega) (by omega) (by omega) (by omega) f4) (by rw [f5, lay_at (by omega), U8_at hr hn, if_pos h56, show 8 * d + (r : Int) + 1 = 8 * d + ((r : Int) + 1) by omega, U8_d hr hn, U8_r hr hn]; first | (rw [lay1_t h72]; done) | (rw [lay1_f h72]; done)) (by omega))
        exact V.sub [0, 2, 1, 3, 4, 5, 6] rfl (loop23 _ 0 u M1 L (by omega) (by omega) e2 e3 e4 (by rw [e5, Int.add_zero]) (Nat.lt_succ_self _))
  exact loop14 _ x 0 M2 (fun _ => 0) (by omega) (by omega) m1 (fun j h1 h2 => m2 j h1 h2) (fun j _ _ => by simp) rfl (Nat.lt_succ_self _)
def kLevel (x z cap : Int) : Int := if kSpan x z = 0 then (if 1 ≤ cap ∧ cap ≤ 99 then 0 else 2) else kSpan x z
def kLevelled (x z cap d : Int) : Int := if isDy d = true then kLevel x z cap else 1
theorem kLevel_0 {x z cap : Int} (h : kSpan x z = 0) (h1 : 1 ≤ cap) (h2 : cap ≤ 99) : kLevel x z cap = 0 := by rw [kLevel, if_pos h, if_pos ⟨h1, h2⟩]
theorem kLevel_s {x z cap : Int} {k : Int} (h : kSpan x z = k) (hk : k ≠ 0) : kLevel x z cap = k := by rw [kLevel, if_neg (by omega), h]
theorem kLevel_2 {x z cap : Int} (h : kSpan x z = 0) (h1 : cap < 1 ∨ 99 < cap) : kLevel x z cap = 2 := by rw [kLevel, if_pos h, if_neg (by omega)]
set_option maxHeartbeats 4000000 in
set_option maxRecDepth 100000 in
theorem c_level (l : Launch) (D : va_G) (cy : Nat → ClassId) (sa : Nat → Addr) (hfl : l.stackTraces = false) (ad : Nat → Nat) (n : Nat) (M : Nat → Int → Int) (h : Int → Bool) (td : Int) (q : Nat → Nat → Int) (rq nd : Nat → Nat) (hci : CI h td n q rq nd M) (x : Int) (hx : inR x) (z : Int) (hz : inR z) (cap : Int) (hcap : inR cap) : Ct l D cy sa yX2_level cX2_level 4 (some .int) 8 6 36 (cl cy (sa 100) ad n M) [.ref (ad 0), vi x, vi z, vi cap] (fun v ws2 => kLevel x z cap = 0 ∧ v = some (vi ((lvl h q n cap x z).2)) ∧ ∃ M2, ws2 = cl cy (sa 100) ad n M2 ∧ CI h td n q rq nd M2) (fun E ws2 => ((E = xIO ∧ kLevel x z cap = 1) ∨ (E = xIA ∧ kLevel x z cap = 2)) ∧ ∃ M2, ws2 = cl cy (sa 100) ad n M2 ∧ CI h td n q rq nd M2) := by
  refine Ct.of (own := RX2) (lc := [(0, .ref (ad 0)), (1, vi x), (2, vi z), (3, vi cap)]) (by decide +kernel) hfl (Nat.le_of_ble_eq_true rfl) rfl rfl ?_
  intro p e s m args below meth c A C hex hnm
  generalize hQ : vx_MQ below (Qo D (fun v ws2 => kLevel x z cap = 0 ∧ v = some (vi ((lvl h q n cap x z).2)) ∧ ∃ M2, ws2 = cl cy (sa 100) ad n M2 ∧ CI h td n q rq nd M2) A) (Xo D (fun E ws2 => ((E = xIO ∧ kLevel x z cap = 1) ∨ (E = xIA ∧ kLevel x z cap = 2)) ∧ ∃ M2, ws2 = cl cy (sa 100) ad n M2 ∧ CI h td n q rq nd M2) A) args s 6 36 A = Q
  replace hQ := hQ.symm
  obtain ⟨hc, ⟨htd, td0, td1⟩, hn, hR⟩ := id hci
  obtain ⟨hxl, hxr⟩ := hx
  obtain ⟨hzl, hzr⟩ := hz
  obtain ⟨hcapl, hcapr⟩ := hcap
  refine V.iload_n C dX2_level_0 1 rfl ?_
  refine V.iload_n C dX2_level_1 2 rfl ?_
  refine V.callS C (As := [vi x, vi z]) (st := []) (wr := []) kS_X2_56 (c_checkSpan l D cy sa hfl _ x z ⟨by omega, by omega⟩ ⟨by omega, by omega⟩) rfl rfl rfl (Nat.le_of_ble_eq_true rfl) ⟨by decide, by decide⟩ ⟨by decide, by decide⟩ dX2_level_2 (fun E wsx hx => ?_) (fun v1 w2 r3 => ?_)
  · skip
    obtain ⟨rfl, ⟨rfl, hx1⟩ | ⟨rfl, hx1, hx2, hx3⟩⟩ := hx
    · rw [hQ]
      exact VX.out C hex (by decide) (by decide) ⟨Or.inl ⟨rfl, kLevel_s (kSpan_1 hx1) (by decide)⟩, M, rfl, hci⟩
    · rw [hQ]
      exact VX.out C hex (by decide) (by decide) ⟨Or.inr ⟨rfl, kLevel_s (kSpan_2 hx1 hx2 hx3) (by decide)⟩, M, rfl, hci⟩
  · skip
    obtain ⟨rfl, hw2, gx0, gx1, gz0, gz1, gxz⟩ := r3
    rw [hw2]
    show V D 4 A p l e (rmL 8 6 36) s m args below meth c Q 3 18 (cl cy (sa 100) ad n M) 5 [(0, .ref (ad 0)), (1, vi x), (2, vi z), (3, vi cap)] []
    refine V.iload_n C dX2_level_5 3 rfl ?_
    refine V.iconst C dX2_level_6 ?_
    refine V.bipush C dX2_level_7 (by decide) ?_
    refine V.callS C (As := [vi cap, vi 1, vi 99]) (st := []) (wr := []) kS_X2_60 (c_checkRange l D cy sa hfl _ cap 1 99 ⟨by omega, by omega⟩ ⟨by decide, by decide⟩ ⟨by decide, by decide⟩) rfl rfl rfl (Nat.le_of_ble_eq_true rfl) ⟨by decide, by decide⟩ ⟨by decide, by decide⟩ dX2_level_9 (fun E wsx hx => ?_) (fun v4 w5 r6 => ?_)
    · skip
      obtain ⟨rfl, rfl, hx1⟩ := hx
      rw [hQ]
      exact VX.out C hex (by decide) (by decide) ⟨Or.inr ⟨rfl, kLevel_2 (kSpan_0 gx0 gx1 gz0 gz1 gxz) hx1⟩, M, rfl, hci⟩
    · skip
      obtain ⟨rfl, hw5, gc0, gc1⟩ := r6
      rw [hw5]
      show V D 4 A p l e (rmL 8 6 36) s m args below meth c Q 4 24 (cl cy (sa 100) ad n M) 12 [(0, .ref (ad 0)), (1, vi x), (2, vi z), (3, vi cap)] []
      refine V.aload_n C dX2_level_12 0 rfl ?_
      refine V.iload_n C dX2_level_13 1 rfl ?_
      refine V.iload_n C dX2_level_14 2 rfl ?_
      refine V.iload_n C dX2_level_15 3 rfl ?_
      refine V.callV C (As := [vi x, vi z, vi cap]) (st := []) (wr := []) kV_X2_177 (c_layEfforts l D cy sa hfl ad n M h td q rq nd hci x z cap gx0 gxz (by omega) gc0 gc1) rfl 0 cl_0 rfl rfl rfl (Nat.le_of_ble_eq_true rfl) ⟨by decide, by decide⟩ ⟨by decide, by decide⟩ dX2_level_16 (fun _ _ h => h.elim) (fun v7 w8 r9 => ?_)
      obtain ⟨rfl, M2, hw8, m1, m2⟩ := r9
      rw [hw8]
      show V D 4 A p l e (rmL 8 6 36) s m args below meth c Q 4 24 (cl cy (sa 100) ad n M2) 19 [(0, .ref (ad 0)), (1, vi x), (2, vi z), (3, vi cap)] [vi ((lvl h q n cap x z).2)]
      rw [hQ]
      exact V.iret C dX2_level_19 (by decide) (by decide) (⟨kLevel_0 (kSpan_0 gx0 gx1 gz0 gz1 gxz) gc0 gc1, rfl, M2, rfl, hci.same m1⟩)
set_option maxHeartbeats 4000000 in
set_option maxRecDepth 100000 in
theorem c_levelled (l : Launch) (D : va_G) (cy : Nat → ClassId) (sa : Nat → Addr) (hfl : l.stackTraces = false) (ad : Nat → Nat) (n : Nat) (M : Nat → Int → Int) (h : Int → Bool) (td : Int) (q : Nat → Nat → Int) (rq nd : Nat → Nat) (hci : CI h td n q rq nd M) (x : Int) (hx : inR x) (z : Int) (hz : inR z) (cap : Int) (hcap : inR cap) (d : Int) (hd : inR d) : Ct l D cy sa yX2_levelled cX2_levelled 5 (some .int) 8 6 36 (cl cy (sa 100) ad n M) [.ref (ad 0), vi x, vi z, vi cap, vi d] (fun v ws2 => kLevelled x z cap d = 0 ∧ v = some (vi ((lvl h q n cap x z).1 d)) ∧ ∃ M2, ws2 = cl cy (sa 100) ad n M2 ∧ CI h td n q rq nd M2) (fun E ws2 => ((E = xIO ∧ kLevelled x z cap d = 1) ∨ (E = xIA ∧ kLevelled x z cap d = 2)) ∧ ∃ M2, ws2 = cl cy (sa 100) ad n M2 ∧ CI h td n q rq nd M2) := by
  refine Ct.of (own := RX2) (lc := [(0, .ref (ad 0)), (1, vi x), (2, vi z), (3, vi cap), (4, vi d)]) (by decide +kernel) hfl (Nat.le_of_ble_eq_true rfl) rfl rfl ?_
  intro p e s m args below meth c A C hex hnm
  generalize hQ : vx_MQ below (Qo D (fun v ws2 => kLevelled x z cap d = 0 ∧ v = some (vi ((lvl h q n cap x z).1 d)) ∧ ∃ M2, ws2 = cl cy (sa 100) ad n M2 ∧ CI h td n q rq nd M2) A) (Xo D (fun E ws2 => ((E = xIO ∧ kLevelled x z cap d = 1) ∨ (E = xIA ∧ kLevelled x z cap d = 2)) ∧ ∃ M2, ws2 = cl cy (sa 100) ad n M2 ∧ CI h td n q rq nd M2) A) args s 6 36 A = Q
  replace hQ := hQ.symm
  obtain ⟨hc, ⟨htd, td0, td1⟩, hn, hR⟩ := id hci
  obtain ⟨hxl, hxr⟩ := hx
  obtain ⟨hzl, hzr⟩ := hz
  obtain ⟨hcapl, hcapr⟩ := hcap
  obtain ⟨hdl, hdr⟩ := hd
  refine V.iload C dX2_levelled_0 4 rfl ?_
  refine V.callS C (As := [vi d]) (st := []) (wr := []) kS_X2_31 (c_checkDay l D cy sa hfl _ d ⟨by omega, by omega⟩) rfl rfl rfl (Nat.le_of_ble_eq_true rfl) ⟨by decide, by decide⟩ ⟨by decide, by decide⟩ dX2_levelled_2 (fun E wsx hx => ?_) (fun v1 w2 r3 => ?_)
  · skip
    obtain ⟨rfl, rfl, hx1⟩ := hx
    rw [hQ]
    exact VX.out C hex (by decide) (by decide) ⟨Or.inl ⟨rfl, by rw [kLevelled, hx1]; rfl⟩, M, rfl, hci⟩
  · skip
    obtain ⟨rfl, hw2, gd0, gd1⟩ := r3
    rw [hw2]
    show V D 5 A p l e (rmL 8 6 36) s m args below meth c Q 1 6 (cl cy (sa 100) ad n M) 5 [(0, .ref (ad 0)), (1, vi x), (2, vi z), (3, vi cap), (4, vi d)] []
    refine V.iload_n C dX2_levelled_5 1 rfl ?_
    refine V.iload_n C dX2_levelled_6 2 rfl ?_
    refine V.callS C (As := [vi x, vi z]) (st := []) (wr := []) kS_X2_56 (c_checkSpan l D cy sa hfl _ x z ⟨by omega, by omega⟩ ⟨by omega, by omega⟩) rfl rfl rfl (Nat.le_of_ble_eq_true rfl) ⟨by decide, by decide⟩ ⟨by decide, by decide⟩ dX2_levelled_7 (fun E wsx hx => ?_) (fun v4 w5 r6 => ?_)
    · skip
      obtain ⟨rfl, ⟨rfl, hx1⟩ | ⟨rfl, hx1, hx2, hx3⟩⟩ := hx
      · rw [hQ]
        exact VX.out C hex (by decide) (by decide) ⟨Or.inl ⟨rfl, by rw [kLevelled, isDy_t gd0 gd1]; exact kLevel_s (kSpan_1 hx1) (by decide)⟩, M, rfl, hci⟩
      · rw [hQ]
        exact VX.out C hex (by decide) (by decide) ⟨Or.inr ⟨rfl, by rw [kLevelled, isDy_t gd0 gd1]; exact kLevel_s (kSpan_2 hx1 hx2 hx3) (by decide)⟩, M, rfl, hci⟩
    · skip
      obtain ⟨rfl, hw5, gx0, gx1, gz0, gz1, gxz⟩ := r6
      rw [hw5]
      show V D 5 A p l e (rmL 8 6 36) s m args below meth c Q 4 24 (cl cy (sa 100) ad n M) 10 [(0, .ref (ad 0)), (1, vi x), (2, vi z), (3, vi cap), (4, vi d)] []
      refine V.iload_n C dX2_levelled_10 3 rfl ?_
      refine V.iconst C dX2_levelled_11 ?_
      refine V.bipush C dX2_levelled_12 (by decide) ?_
      refine V.callS C (As := [vi cap, vi 1, vi 99]) (st := []) (wr := []) kS_X2_60 (c_checkRange l D cy sa hfl _ cap 1 99 ⟨by omega, by omega⟩ ⟨by decide, by decide⟩ ⟨by decide, by decide⟩) rfl rfl rfl (Nat.le_of_ble_eq_true rfl) ⟨by decide, by decide⟩ ⟨by decide, by decide⟩ dX2_levelled_14 (fun E wsx hx => ?_) (fun v7 w8 r9 => ?_)
      · skip
        obtain ⟨rfl, rfl, hx1⟩ := hx
        rw [hQ]
        exact VX.out C hex (by decide) (by decide) ⟨Or.inr ⟨rfl, by rw [kLevelled, isDy_t gd0 gd1]; exact kLevel_2 (kSpan_0 gx0 gx1 gz0 gz1 gxz) hx1⟩, M, rfl, hci⟩
      · skip
        obtain ⟨rfl, hw8, gc0, gc1⟩ := r9
        rw [hw8]
        show V D 5 A p l e (rmL 8 6 36) s m args below meth c Q 5 30 (cl cy (sa 100) ad n M) 17 [(0, .ref (ad 0)), (1, vi x), (2, vi z), (3, vi cap), (4, vi d)] []
        refine V.aload_n C dX2_levelled_17 0 rfl ?_
        refine V.iload_n C dX2_levelled_18 1 rfl ?_
        refine V.iload_n C dX2_levelled_19 2 rfl ?_
        refine V.iload_n C dX2_levelled_20 3 rfl ?_
        refine V.callV C (As := [vi x, vi z, vi cap]) (st := []) (wr := []) kV_X2_177 (c_layEfforts l D cy sa hfl ad n M h td q rq nd hci x z cap gx0 gxz (by omega) gc0 gc1) rfl 0 cl_0 rfl rfl rfl (Nat.le_of_ble_eq_true rfl) ⟨by decide, by decide⟩ ⟨by decide, by decide⟩ dX2_levelled_21 (fun _ _ h => h.elim) (fun v10 w11 r12 => ?_)
        obtain ⟨rfl, M2, hw11, m1, m2⟩ := r12
        rw [hw11]
        show V D 5 A p l e (rmL 8 6 36) s m args below meth c Q 5 30 (cl cy (sa 100) ad n M2) 24 [(0, .ref (ad 0)), (1, vi x), (2, vi z), (3, vi cap), (4, vi d)] [vi ((lvl h q n cap x z).2)]
        refine V.pop C dX2_levelled_24 rfl ?_
        refine V.aload_n C dX2_levelled_25 0 rfl ?_
        refine V.getf C (v := .ref (ad 6)) 0 cl_0 rfl inX2 3 (by decide) fl_X2_27 (fun _ h => h) rfl dX2_levelled_26 ?_
        refine V.iload C dX2_levelled_29 4 rfl ?_
        refine V.iald C (v := (lvl h q n cap x z).1 d) 6 cl_6 (by omega) (by omega) (by decide) (ld_ar (by omega) (m2 d gd0 gd1)) dX2_levelled_31 ?_
        rw [hQ]
        exact V.iret C dX2_levelled_32 (by decide) (by decide) (⟨by rw [kLevelled, isDy_t gd0 gd1]; exact kLevel_0 (kSpan_0 gx0 gx1 gz0 gz1 gxz) gc0 gc1, rfl, M2, rfl, hci.same m1⟩)
