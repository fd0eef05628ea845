/-! the reference: the order -/
theorem nio_ne {f bl : Nat → Int} {x : Int} : ∀ i : Nat, (nioF f bl x i).1 = -1 ∨ ¬ f (nioF f bl x i).1.toNat = -1
  | 0 => Or.inl rfl
  | i + 1 => by
    simp only [nioF]
    split
    · rename_i g
      refine Or.inr ?_
      show ¬ f ((i : Int)).toNat = -1
      rw [Int.toNat_natCast]; exact g.1
    · exact nio_ne i
theorem nxt_ne {n : Nat} {rq : Nat → Nat} {x : Int} {f : Nat → Int} (h : ¬ nxt n rq x f = -1) : ¬ f (nxt n rq x f).toNat = -1 := by
  rcases nio_ne (f := f) (bl := fun i => lb n (rq i) f (f i)) (x := x) n with g | g
  · exact absurd g h
  · exact g
theorem ord_k {h : Int → Bool} {q : Nat → Nat → Int} {c : Nat → Int} {n i : Nat} {k : Int} (hn : n ≤ 8) (hi : i < n) (hc : ∀ j, j < n → 0 ≤ c j ∧ c j ≤ 720) (h1 : ¬ fC h q c i = -1) (hk : k ≤ sumN c n) : k < 5760 ∧ c i < 720 := by
  have hl := dk_lt h1 (by decide) (hc i hi).1
  have hr := ct_rng (dueR h (q i)) 0 720 (by decide)
  have := sumN_le (c := c) (i := i) n fun j hj => (hc j hj).2
  rw [if_pos hi] at this
  omega
theorem ord_stop {h : Int → Bool} {q : Nat → Nat → Int} {n : Nat} {rq : Nat → Nat} {x k z t : Int} {f : Nat → Int} (ht : t = nxt n rq x f) (hs : t = -1 ∨ (z = 0 ∧ k < 5760)) : ordF h q n rq x (5760 - k).toNat f z = t := by
  by_cases hk : k < 5760
  · rw [ordF_at hk, ← ht]
    by_cases c : t = -1
    · rw [if_pos c, c]
    · rw [if_neg c]
      rcases hs with g | g
      · exact absurd g c
      · rw [if_pos g.1]
  · rw [ordF_end (by omega)]
    rcases hs with g | g
    · exact g.symm
    · exact absurd g.2 hk
set_option maxHeartbeats 4000000 in
set_option maxRecDepth 100000 in
theorem c_m_order (l : Launch) (D : va_G) (cy : Nat → ClassId) (sa : Nat → Addr) (hfl : l.stackTraces = false) (ad : Nat → Nat) (M : Nat → Int → Int) (h : Int → Bool) (td : Int) (n : Nat) (q : Nat → Nat → Int) (rq : Nat → Nat) (hmi : MI h td n q rq M) (x : Int) (hx : inR x) (z : Int) (hz : inR z) : Ct l D cy sa yX3_order cX3_order 5 (some .int) 8 0 0 (ml cy ad M) [.ref (ad 0), vi x, vi z] (fun v ws2 => ∃ y, v = some (vi y) ∧ ((kDP x z) = 0 → y = ordF h q n rq x 5760 (fo h q) z) ∧ ∃ M2, ws2 = ml cy ad M2 ∧ M2 0 0 = (kDP x z) ∧ MI h td n q rq M2) no_x := by
  refine Ct.of (own := RX3) (lc := [(0, .ref (ad 0)), (1, vi x), (2, vi z)]) (by decide +kernel) hfl (Nat.le_of_ble_eq_true rfl) rfl rfl ?_
  intro p e s m args below meth c A C hex hnm
  generalize hQ : vx_MQ below (Qo D (fun v ws2 => ∃ y, v = some (vi y) ∧ ((kDP x z) = 0 → y = ordF h q n rq x 5760 (fo h q) z) ∧ ∃ M2, ws2 = ml cy ad M2 ∧ M2 0 0 = (kDP x z) ∧ MI h td n q rq M2) A) (Xo D no_x A) args s 0 0 A = Q
  replace hQ := hQ.symm
  obtain ⟨hch, ⟨htd, td0, td1⟩, ⟨hmn, hn8⟩, hR, hZ, hQ12⟩ := id hmi
  obtain ⟨hxl, hxr⟩ := hx
  obtain ⟨hzl, hzr⟩ := hz
  refine V.aload_n C dX3_order_0 0 rfl ?_
  refine V.iload_n C dX3_order_1 1 rfl ?_
  refine V.callS C (As := [vi x]) (st := [.ref (ad 0)]) (wr := []) kS_X3_67 (c_m_isDay l D cy sa hfl _ x ⟨by omega, by omega⟩) rfl rfl rfl (Nat.le_of_ble_eq_true rfl) ⟨by decide, by decide⟩ ⟨by decide, by decide⟩ dX3_order_2 (fun _ _ h => h.elim) (fun v1 w2 r3 => ?_)
  obtain ⟨rfl, hw2⟩ := r3
  rw [hw2]
  show V D 5 A p l e (rmL 8 0 0) s m args below meth c Q 0 0 (ml cy ad M) 5 [(0, .ref (ad 0)), (1, vi x), (2, vi z)] [vi (bI (isDy x)), .ref (ad 0)]
  refine V.if_eqB C 16 dX3_order_5 (by decide) (fun h5 => ?_) (fun h5 => ?_)
  · skip
    refine V.iconst C dX3_order_16 ?_
    refine V.putf C (v := vi 1) (ty := .int) 0 rfl rfl inX3 tyX3 tyX3_ok nmX3 0 (by decide) fl_X3_56 (fun _ h => h) rfl (by decide +kernel) rfl rfl (Nat.le_of_ble_eq_true rfl) dX3_order_17 mput_0_0 ?_
    refine V.aload_n C dX3_order_20 0 rfl ?_
    refine V.getf C (v := vi 1) 0 rfl rfl inX3 0 (by decide) fl_X3_56 (fun _ h => h) (by show some _ = some _; rw [upM_s]) dX3_order_21 ?_
    refine V.if_le C 29 dX3_order_24 (by decide) ⟨by decide, by decide⟩ (fun h24 => (by exact absurd h24 (by decide))) (fun h24 => ?_)
    refine V.iconst C dX3_order_27 ?_
    rw [hQ]
    exact V.iret C dX3_order_28 (by decide) (by decide) (⟨_, rfl, fun e9 => n10 (kDP_1 (Or.inl h5)) e9, _, rfl, by rw [upM_s, kDP_1 (Or.inl h5)], hmi.t⟩)
  · skip
    have gx := isDy_iff.mp h5
    obtain ⟨gx0, gx1⟩ := gx
    refine V.iload_n C dX3_order_8 2 rfl ?_
    refine V.if_lt C 16 dX3_order_9 (by decide) ⟨by omega, by omega⟩ (fun h9 => ?_) (fun h9 => ?_)
    · skip
      refine V.iconst C dX3_order_16 ?_
      refine V.putf C (v := vi 1) (ty := .int) 0 rfl rfl inX3 tyX3 tyX3_ok nmX3 0 (by decide) fl_X3_56 (fun _ h => h) rfl (by decide +kernel) rfl rfl (Nat.le_of_ble_eq_true rfl) dX3_order_17 mput_0_0 ?_
      refine V.aload_n C dX3_order_20 0 rfl ?_
      refine V.getf C (v := vi 1) 0 rfl rfl inX3 0 (by decide) fl_X3_56 (fun _ h => h) (by show some _ = some _; rw [upM_s]) dX3_order_21 ?_
      refine V.if_le C 29 dX3_order_24 (by decide) ⟨by decide, by decide⟩ (fun h24 => (by exact absurd h24 (by decide))) (fun h24 => ?_)
      refine V.iconst C dX3_order_27 ?_
      rw [hQ]
      exact V.iret C dX3_order_28 (by decide) (by decide) (⟨_, rfl, fun e9 => n10 (kDP_1 (Or.inr h9)) e9, _, rfl, by rw [upM_s, kDP_1 (Or.inr h9)], hmi.t⟩)
    · skip
      refine V.iconst C dX3_order_12 ?_
      refine V.goto C 17 dX3_order_13 (by decide) ?_
      refine V.putf C (v := vi 0) (ty := .int) 0 rfl rfl inX3 tyX3 tyX3_ok nmX3 0 (by decide) fl_X3_56 (fun _ h => h) rfl (by decide +kernel) rfl rfl (Nat.le_of_ble_eq_true rfl) dX3_order_17 mput_0_0 ?_
      refine V.aload_n C dX3_order_20 0 rfl ?_
      refine V.getf C (v := vi 0) 0 rfl rfl inX3 0 (by decide) fl_X3_56 (fun _ h => h) (by show some _ = some _; rw [upM_s]) dX3_order_21 ?_
      refine V.if_le C 29 dX3_order_24 (by decide) ⟨by decide, by decide⟩ (fun h24 => ?_) (fun h24 => (by exact absurd h24 (by decide)))
      refine V.aload_n C dX3_order_29 0 rfl ?_
      refine V.callV C (As := []) (st := []) (wr := []) kV_X3_97 (c_m_marks l D cy sa hfl ad (upM M 0 0 0) h td n q rq (hmi.t)) rfl 0 rfl rfl rfl rfl (Nat.le_of_ble_eq_true rfl) ⟨by decide, by decide⟩ ⟨by decide, by decide⟩ dX3_order_30 (fun _ _ h => h.elim) (fun v4 w5 r6 => ?_)
      obtain ⟨rfl, M1, hw5, fr1, mk1⟩ := r6
      rw [hw5]
      have hmi1 : MI h td n q rq M1 := (hmi.t).same (fun k k2 k12 => fr1 k (by omega) (by omega) (by omega)) (by rw [fr1 0 (by decide) (by decide) (by decide)]) (by rw [fr1 0 (by decide) (by decide) (by decide)])
      have hR1 := hmi1.2.2.2.1
      have ht1 : M1 0 0 = 0 := by rw [fr1 0 (by decide) (by decide) (by decide)]; exact upM_s _ _ _ _
      show V D 5 A p l e (rmL 8 0 0) s m args below meth c Q 0 0 (ml cy ad M1) 33 [(0, .ref (ad 0)), (1, vi x), (2, vi z)] []
      refine V.iconst C dX3_order_33 ?_
      refine V.istore_n C (lc2 := [(3, vi 0), (0, .ref (ad 0)), (1, vi x), (2, vi z)]) dX3_order_34 (by decide) rfl ?_
      have loop35 : ∀ (fz : Nat) (r : Int) (M2 : Nat → Int → Int), (0 ≤ r) → (r ≤ (n : Int)) → (∀ k, k ≠ 16 → M2 k = M1 k) → (∀ y : Int, 0 ≤ y → y < r → M2 16 y = q y.toNat 8) → (((n : Int) - r).toNat < fz) → V D 5 A p l e (rmL 8 0 0) s m args below meth c Q 0 0 (ml cy ad M2) 35 [(3, vi r), (0, .ref (ad 0)), (1, vi x), (2, vi z)] [] := by
        intro fz
        induction fz with
        | zero => intro r M2 e0 e1 e2 e3 hf; exact absurd hf (Nat.not_lt_zero _)
        | succ fz ih35 =>
          intro r M2 e0 e1 e2 e3 hf35
          have hmi2 : MI h td n q rq M2 := hmi1.same (fun k _ k12 => e2 k (by omega)) (by rw [e2 0 (by decide)]) (by rw [e2 0 (by decide)])
          have hR2 := hmi2.2.2.2.1
          have mk2 := mk1.same (e2 13 (by decide)) (e2 14 (by decide)) (e2 15 (by decide))
          refine V.iload_n C dX3_order_35 0 rfl ?_
          refine V.aload_n C dX3_order_36 1 rfl ?_
          refine V.getf C (v := vi (n : Int)) 0 rfl rfl inX3 3 (by decide) fl_X3_64 (fun _ h => h) (by show some _ = some _; rw [hmi2.2.2.1.1]) dX3_order_37 ?_
          refine V.icmp_ge C 61 dX3_order_40 (by decide) ⟨by omega, by omega⟩ ⟨by omega, by omega⟩ (fun h40 => ?_) (fun h40 => ?_)
          · skip
            refine V.aload_n C dX3_order_61 1 rfl ?_
            refine V.iload_n C dX3_order_62 2 rfl ?_
            refine V.callV C (As := [vi x]) (st := []) (wr := []) kV_X3_117 (c_m_comesNext l D cy sa hfl ad M2 h td n q rq hmi2 mk2 (fun i => q i 8) (fun y y0 y1 => ⟨e3 y y0 (by omega), (hR y y0 y1).2.2.2.2.2.2.2.2.2.1⟩) x gx0 gx1) rfl 0 rfl rfl rfl rfl (Nat.le_of_ble_eq_true rfl) ⟨by decide, by decide⟩ ⟨by decide, by decide⟩ dX3_order_63 (fun _ _ h => h.elim) (fun v7 w8 r9 => ?_)
            obtain ⟨rfl, hw8⟩ := r9
            rw [hw8]
            show V D 5 A p l e (rmL 8 0 0) s m args below meth c Q 0 0 (ml cy ad M2) 66 [(3, vi r), (0, .ref (ad 0)), (1, vi x), (2, vi z)] [vi (nxt n rq x (fC h q (fun i => q i 8)))]
            refine V.istore_n C (lc2 := [(3, vi (nxt n rq x (fC h q (fun i => q i 8)))), (0, .ref (ad 0)), (1, vi x), (2, vi z)]) dX3_order_66 (by decide) rfl ?_
            refine V.iconst C dX3_order_67 ?_
            refine V.istore C (lc2 := [(4, vi 0), (3, vi (nxt n rq x (fC h q (fun i => q i 8)))), (0, .ref (ad 0)), (1, vi x), (2, vi z)]) dX3_order_68 (by decide) rfl ?_
            have loop70 : ∀ (fz : Nat) (k : Int) (t : Int) (M3 : Nat → Int → Int) (c8 : Nat → Int), (0 ≤ k) → (k ≤ z) → (∀ k, k ≠ 16 → M3 k = M1 k) → (∀ y : Int, 0 ≤ y → y < (n : Int) → M3 16 y = c8 y.toNat ∧ 0 ≤ c8 y.toNat ∧ c8 y.toNat ≤ 720) → (t = nxt n rq x (fC h q c8)) → (k ≤ sumN c8 n) → (ordF h q n rq x 5760 (fo h q) z = ordF h q n rq x (5760 - k).toNat (fC h q c8) (z - k)) → ((z - k).toNat < fz) → V D 5 A p l e (rmL 8 0 0) s m args below meth c Q 0 0 (ml cy ad M3) 70 [(4, vi k), (3, vi t), (0, .ref (ad 0)), (1, vi x), (2, vi z)] [] := by
              intro fz
              induction fz with
              | zero => intro k t M3 c8 f0 f1 f2 f3 f4 f5 f6 hf; exact absurd hf (Nat.not_lt_zero _)
              | succ fz ih70 =>
                intro k t M3 c8 f0 f1 f2 f3 f4 f5 f6 hf70
                have hmi3 : MI h td n q rq M3 := hmi1.same (fun k _ k12 => f2 k (by omega)) (by rw [f2 0 (by decide)]) (by rw [f2 0 (by decide)])
                have hR3 := hmi3.2.2.2.1
                have mk3 := mk1.same (f2 13 (by decide)) (f2 14 (by decide)) (f2 15 (by decide))
                have fcr := fun i => fC_rng h q c8 i
                have tr := nxt_rng (n := n) (rq := rq) (x := x) (f := fC h q c8) ⟨gx0, gx1⟩ (fun i _ => fcr i)
                rw [← f4] at tr
                have hcN : ∀ j, j < n → 0 ≤ c8 j ∧ c8 j ≤ 720 := fun j hj => by have := (f3 (j : Int) (by omega) (by omega)).2; rwa [Int.toNat_natCast] at this
                refine V.iload C dX3_order_70 0 rfl ?_
                refine V.iload_n C dX3_order_72 4 rfl ?_
                refine V.icmp_ge C 103 dX3_order_73 (by decide) ⟨by omega, by omega⟩ ⟨by omega, by omega⟩ (fun h73 => ?_) (fun h73 => ?_)
                · skip
                  refine V.iload_n C dX3_order_103 1 rfl ?_
                  rw [hQ]
                  exact V.iret C dX3_order_104 (by decide) (by decide) (⟨_, rfl, fun _ => by rw [f6]; exact (ord_stop f4 ((by by_cases c : t = -1; (exact Or.inl c); (have fne : ¬ fC h q c8 t.toNat = -1 := (by have := nxt_ne (n := n) (rq := rq) (x := x) (f := fC h q c8) (by rw [← f4]; exact c); rwa [← f4] at this); exact Or.inr ⟨by omega, (ord_k hn8 (show t.toNat < n by omega) hcN fne f5).1⟩)))).symm, _, rfl, by rw [f2 0 (by decide), ht1, kDP_t h5 (by omega)], hmi3⟩)
                · skip
                  refine V.iload_n C dX3_order_76 1 rfl ?_
                  refine V.iconst C dX3_order_77 ?_
                  refine V.icmp_eq C 103 dX3_order_78 (by decide) ⟨by omega, by omega⟩ ⟨by decide, by decide⟩ (fun h78 => ?_) (fun h78 => ?_)
                  · skip
                    refine V.iload_n C dX3_order_103 1 rfl ?_
                    rw [hQ]
                    exact V.iret C dX3_order_104 (by decide) (by decide) (⟨_, rfl, fun _ => by rw [f6]; exact (ord_stop f4 (Or.inl h78)).symm, _, rfl, by rw [f2 0 (by decide), ht1, kDP_t h5 (by omega)], hmi3⟩)
                  · skip
                    have tn : t.toNat < n := by omega
                    have fne : ¬ fC h q c8 t.toNat = -1 := by have := nxt_ne (n := n) (rq := rq) (x := x) (f := fC h q c8) (by rw [← f4]; exact h78); rwa [← f4] at this
                    have okk := ord_k hn8 tn hcN fne f5
                    refine V.aload_n C dX3_order_81 2 rfl ?_
                    refine V.getf C (v := .ref (ad 16)) 0 rfl rfl inX3 16 (by decide) fl_X3_50 (fun _ h => h) rfl dX3_order_82 ?_
                    refine V.iload_n C dX3_order_85 1 rfl ?_
                    refine V.dup2 C dX3_order_86 rfl rfl ?_
                    refine V.iald C (v := c8 t.toNat) 14 rfl (by omega) (by omega) (by decide) (ld_ar (by omega) ((f3 t (by omega) (by omega)).1)) dX3_order_87 ?_
                    refine V.iconst C dX3_order_88 ?_
                    refine V.iadd C dX3_order_89 ?_
                    refine V.iast C 14 rfl (by omega) (by omega) (by decide) dX3_order_90 (mput_16 (by omega)) ?_
                    show V D 5 A p l e (rmL 8 0 0) s m args below meth c Q 0 0 (ml cy ad (upM M3 16 t ((c8 t.toNat) + 1))) 91 [(4, vi k), (3, vi t), (0, .ref (ad 0)), (1, vi x), (2, vi z)] []
                    obtain ⟨M4, hM4⟩ : ∃ y, y = (upM M3 16 t ((c8 t.toNat) + 1)) := ⟨_, rfl⟩
                    rw [← hM4]
                    have e4 : ∀ k, k ≠ 16 → M4 k = M1 k := fun k hk => by rw [hM4]; exact (upM_off hk).trans (f2 k hk)
                    have f3b : ∀ y : Int, 0 ≤ y → y < (n : Int) → M4 16 y = cU c8 t.toNat y.toNat ∧ 0 ≤ cU c8 t.toNat y.toNat ∧ cU c8 t.toNat y.toNat ≤ 720 := fun y y0 y1 => by
                      have := f3 y y0 y1
                      rw [hM4]
                      unfold cU
                      by_cases c : y = t
                      · subst c; rw [upM_s, if_pos rfl]; omega
                      · rw [upM_n (Or.inr c), if_neg (by omega)]; exact this
                    have hmi4 : MI h td n q rq M4 := hmi1.same (fun k _ k12 => e4 k (by omega)) (by rw [e4 0 (by decide)]) (by rw [e4 0 (by decide)])
                    have hR4 := hmi4.2.2.2.1
                    have mk4 := mk1.same (e4 13 (by decide)) (e4 14 (by decide)) (e4 15 (by decide))
                    refine V.aload_n C dX3_order_91 2 rfl ?_
                    refine V.iload_n C dX3_order_92 3 rfl ?_
                    refine V.callV C (As := [vi x]) (st := []) (wr := []) kV_X3_117 (c_m_comesNext l D cy sa hfl ad M4 h td n q rq hmi4 mk4 (cU c8 t.toNat) (f3b) x gx0 gx1) rfl 0 rfl rfl rfl rfl (Nat.le_of_ble_eq_true rfl) ⟨by decide, by decide⟩ ⟨by decide, by decide⟩ dX3_order_93 (fun _ _ h => h.elim) (fun v10 w11 r12 => ?_)
                    obtain ⟨rfl, hw11⟩ := r12
                    rw [hw11]
                    show V D 5 A p l e (rmL 8 0 0) s m args below meth c Q 0 0 (ml cy ad M4) 96 [(4, vi k), (3, vi t), (0, .ref (ad 0)), (1, vi x), (2, vi z)] [vi (nxt n rq x (fC h q (cU c8 t.toNat)))]
                    refine V.istore_n C (lc2 := [(3, vi (nxt n rq x (fC h q (cU c8 t.toNat)))), (4, vi k), (0, .ref (ad 0)), (1, vi x), (2, vi z)]) dX3_order_96 (by decide) rfl ?_
                    refine V.iinc C (lc2 := [(4, vi (k + 1)), (3, vi (nxt n rq x (fC h q (cU c8 t.toNat)))), (0, .ref (ad 0)), (1, vi x), (2, vi z)]) dX3_order_97 1 rfl (by decide) rfl ?_
                    refine V.goto C 70 dX3_order_100 (by decide) ?_
                    exact ih70 (k + 1) (nxt n rq x (fC h q (cU c8 t.toNat))) M4 (cU c8 t.toNat) (by omega) (by omega) e4 f3b rfl (by rw [sumN_cU, if_pos tn]; omega) (by rw [f6, ordF_at okk.1, ← f4, if_neg h78, if_neg (by omega), fC_adv fne (hcN _ tn).1, show ((t.toNat : Nat) : Int) = t by omega, show z - (k + 1) = z - k - 1 by omega]) (by omega)
            exact loop70 _ 0 (nxt n rq x (fC h q (fun i => q i 8))) M2 (fun i => q i 8) (by omega) (by omega) e2 (fun y y0 y1 => ⟨e3 y y0 (by omega), (hR y y0 y1).2.2.2.2.2.2.2.2.2.1⟩) rfl (sumN_0 n fun j hj => by have := (hR (j : Int) (by omega) (by omega)).2.2.2.2.2.2.2.2.2.1; rw [Int.toNat_natCast] at this; exact this.1) (by rw [Int.sub_zero, Int.sub_zero]; rfl) (Nat.lt_succ_self _)
          · skip
            refine V.aload_n C dX3_order_43 1 rfl ?_
            refine V.getf C (v := .ref (ad 16)) 0 rfl rfl inX3 16 (by decide) fl_X3_50 (fun _ h => h) rfl dX3_order_44 ?_
            refine V.iload_n C dX3_order_47 0 rfl ?_
            refine V.aload_n C dX3_order_48 1 rfl ?_
            refine V.getf C (v := .ref (ad 10)) 0 rfl rfl inX3 10 (by decide) fl_X3_32 (fun _ h => h) rfl dX3_order_49 ?_
            refine V.iload_n C dX3_order_52 0 rfl ?_
            refine V.iald C (v := q (r).toNat 8) 8 rfl (by omega) (by omega) (by decide) (ld_ar (by omega) ((hR2 _ (e0) (by omega)).1.2.2.2.2.2.2.1)) dX3_order_53 ?_
            refine V.iast C 14 rfl (by omega) (by omega) (by decide) dX3_order_54 (mput_16 (by omega)) ?_
            refine V.iinc C (lc2 := [(3, vi (r + 1)), (0, .ref (ad 0)), (1, vi x), (2, vi z)]) dX3_order_55 0 rfl (by decide) rfl ?_
            refine V.goto C 35 dX3_order_58 (by decide) ?_
            exact ih35 (r + 1) (upM M2 16 r (q (r).toNat 8)) (by omega) (by omega) (fun k hk => (upM_off hk).trans (e2 k hk)) (fun y y0 y1 => by
                  by_cases c : y = r
                  · subst c; exact upM_s _ _ _ _
                  · rw [upM_n (Or.inr c)]; exact e3 y y0 (by omega)) (by omega)
      exact loop35 _ 0 M1 (by omega) (by omega) (fun _ _ => rfl) (fun y _ _ => by omega) (Nat.lt_succ_self _)
