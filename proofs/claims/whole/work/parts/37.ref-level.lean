/-! the reference: levelling -/
theorem lay1_no {w : Int → Bool} {cap x d e : Int} {s : (Int → Int) × Int} (h : ld w s.1 cap e x d = -1) : lay1 w cap x d e s = (s.1, s.2 + e) := by rw [lay1, if_pos h]
theorem lay1_at {w : Int → Bool} {cap x d e t : Int} {s : (Int → Int) × Int} (h : ld w s.1 cap e x d = t) (ht : ¬ t = -1) : lay1 w cap x d e s = (fun j => if j = t then s.1 j + e else s.1 j, s.2) := by rw [lay1, if_neg (by rw [h]; exact ht), h]
def FL (M M2 : Nat → Int → Int) : Prop := (∀ k, k ≠ 17 → k ≠ 0 → M2 k = M k) ∧ ∀ j : Int, j ≠ 18 → M2 0 j = M 0 j
theorem FL.rfl9 {M : Nat → Int → Int} : FL M M := ⟨fun _ _ _ => rfl, fun _ _ => rfl⟩
theorem FL.tr {M M2 M3 : Nat → Int → Int} (h1 : FL M M2) (h2 : FL M2 M3) : FL M M3 := ⟨fun k a b => (h2.1 k a b).trans (h1.1 k a b), fun j a => (h2.2 j a).trans (h1.2 j a)⟩
theorem FL.mi {h : Int → Bool} {td : Int} {n : Nat} {q : Nat → Nat → Int} {rq : Nat → Nat} {M M2 : Nat → Int → Int} (hf : FL M M2) (hm : MI h td n q rq M) : MI h td n q rq M2 := hm.same (fun k k2 k12 => hf.1 k (by omega) (by omega)) (hf.2 1 (by decide)) (hf.2 3 (by decide))
theorem FL.mk {h : Int → Bool} {n : Nat} {q : Nat → Nat → Int} {M M2 : Nat → Int → Int} (hf : FL M M2) (hm : MK h n q M) : MK h n q M2 := hm.same (hf.1 13 (by decide) (by decide)) (hf.1 14 (by decide) (by decide)) (hf.1 15 (by decide) (by decide))
def HL (s : (Int → Int) × Int) (M : Nat → Int → Int) : Prop := (∀ j, 0 ≤ j → j < 720 → M 17 j = s.1 j) ∧ M 0 18 = s.2
theorem lay1_rng2 {w : Int → Bool} {cap x d e : Int} {s : (Int → Int) × Int} (hx : 0 ≤ x) (hd : d < 720) (hc : cap ≤ 99) (he : 0 ≤ e) (hL : ∀ j, 0 ≤ j → j < 720 → 0 ≤ s.1 j ∧ s.1 j ≤ 99) : ∀ j, 0 ≤ j → j < 720 → 0 ≤ (lay1 w cap x d e s).1 j ∧ (lay1 w cap x d e s).1 j ≤ 99 := by
  obtain ⟨L, u⟩ := s
  rw [lay1_1]
  exact lay1_rng hx hd hc he hL
theorem lay_U {h : Int → Bool} {q : Nat → Nat → Int} {n : Nat} {cap x B d i : Int} {s : (Int → Int) × Int} (i0 : 0 ≤ i) (i1 : i < (n : Int)) (hn : n ≤ 8) (hB : 8 * d + i < B) : lay h q n cap x B (8 * d + i) s = lay h q n cap x B (8 * d + (i + 1)) (if dueR h (q i.toNat) d = true then lay1 (wk h) cap x d (q i.toNat 3) s else s) := by
  have u8 : U8 h q n (8 * d + i) = dueR h (q i.toNat) d := by
    have := U8_at (h := h) (q := q) (n := n) (r := i.toNat) (d := d) (by omega) hn
    rwa [show ((i.toNat : Nat) : Int) = i by omega] at this
  rw [lay_at hB, u8, show (8 * d + i) / 8 = d by omega, show (8 * d + i) % 8 = i by omega, show 8 * d + i + 1 = 8 * d + (i + 1) by omega]
set_option maxHeartbeats 4000000 in
set_option maxRecDepth 100000 in
theorem c_m_lays (l : Launch) (D : va_G) (cy : Nat → ClassId) (sa : Nat → Addr) (hfl : l.stackTraces = false) (ad : Nat → Nat) (M : Nat → Int → Int) (h : Int → Bool) (hh : CH h M) (x d0 e9 cap : Int) (h0 : 0 ≤ x) (h1 : x ≤ d0) (h2 : d0 < 720) (h3 : 1 ≤ cap) (h4 : cap ≤ 99) (h5 : 1 ≤ e9) (h6a : e9 ≤ 9) (sL : (Int → Int) × Int) (hL : HL sL M) (hLr : ∀ j, 0 ≤ j → j < 720 → 0 ≤ sL.1 j ∧ sL.1 j ≤ 99) : Ct l D cy sa yX3_lays cX3_lays 6 none 3 0 0 (ml cy ad M) [.ref (ad 0), vi x, vi d0, vi e9, vi cap] (fun v ws2 => v = none ∧ ∃ M2, ws2 = ml cy ad M2 ∧ FL M M2 ∧ HL (lay1 (wk h) cap x d0 e9 sL) M2) no_x := by
  refine Ct.of (own := RX3) (lc := [(0, .ref (ad 0)), (1, vi x), (2, vi d0), (3, vi e9), (4, vi cap)]) (by decide +kernel) hfl (Nat.le_of_ble_eq_true rfl) rfl rfl ?_
  intro p e s m args below meth c A C hex hnm
  generalize hQ : vx_MQ below (Qo D (fun v ws2 => v = none ∧ ∃ M2, ws2 = ml cy ad M2 ∧ FL M M2 ∧ HL (lay1 (wk h) cap x d0 e9 sL) M2) A) (Xo D no_x A) args s 0 0 A = Q
  replace hQ := hQ.symm
  skip
  refine V.iload_n C dX3_lays_0 2 rfl ?_
  refine V.istore C (lc2 := [(5, vi d0), (0, .ref (ad 0)), (1, vi x), (2, vi d0), (3, vi e9), (4, vi cap)]) dX3_lays_1 (by decide) rfl ?_
  have loop3 : ∀ (fz : Nat) (d : Int), (x - 1 ≤ d) → (d ≤ d0) → (ld (wk h) sL.1 cap e9 x d0 = ld (wk h) sL.1 cap e9 x d) → ((d + 1 - x).toNat < fz) → V D 6 A p l e (rmL 3 0 0) s m args below meth c Q 0 0 (ml cy ad M) 3 [(5, vi d), (0, .ref (ad 0)), (1, vi x), (2, vi d0), (3, vi e9), (4, vi cap)] [] := by
    intro fz
    induction fz with
    | zero => intro d e0 e1 e2 hf; exact absurd hf (Nat.not_lt_zero _)
    | succ fz ih3 =>
      intro d e0 e1 e2 hf3
      refine V.iload C dX3_lays_3 0 rfl ?_
      refine V.iload_n C dX3_lays_5 2 rfl ?_
      refine V.icmp_lt C 38 dX3_lays_6 (by decide) ⟨by omega, by omega⟩ ⟨by omega, by omega⟩ (fun h6 => ?_) (fun h6 => ?_)
      · skip
        refine V.iload C dX3_lays_38 0 rfl ?_
        refine V.iload_n C dX3_lays_40 2 rfl ?_
        refine V.icmp_lt C 58 dX3_lays_41 (by decide) ⟨by omega, by omega⟩ ⟨by omega, by omega⟩ (fun h41 => ?_) (fun h41 => (by exact absurd h6 h41))
        refine V.aload_n C dX3_lays_58 1 rfl ?_
        refine V.dup C dX3_lays_59 rfl ?_
        refine V.getf C (v := vi (M 0 18)) 0 rfl rfl inX3 18 (by decide) fl_X3_123 (fun _ h => h) rfl dX3_lays_60 ?_
        refine V.iload_n C dX3_lays_63 4 rfl ?_
        refine V.iadd C dX3_lays_64 ?_
        refine V.putf C (v := vi ((M 0 18) + e9)) (ty := .int) 0 rfl rfl inX3 tyX3 tyX3_ok nmX3 18 (by decide) fl_X3_123 (fun _ h => h) rfl (by decide +kernel) rfl rfl (Nat.le_of_ble_eq_true rfl) dX3_lays_65 mput_0_18 ?_
        rw [hQ]
        exact V.vret C dX3_lays_68 (by decide) (by decide) (⟨rfl, _, rfl, ⟨fun k k17 k0 => upM_off k0, fun j hj => upM_n (Or.inr hj)⟩, by rw [lay1_no (by rw [e2, ld_end (by omega)])]; exact ⟨fun j j0 j1 => by rw [upM_n (Or.inl (by decide))]; exact hL.1 j j0 j1, by rw [upM_s, hL.2]⟩⟩)
      · skip
        refine V.aload_n C dX3_lays_9 1 rfl ?_
        refine V.iload C dX3_lays_10 0 rfl ?_
        refine V.callV C (As := [vi d]) (st := []) (wr := []) kV_X3_71 (c_m_works l D cy sa hfl ad M h hh d (by omega) (by omega)) rfl 0 rfl rfl rfl rfl (Nat.le_of_ble_eq_true rfl) ⟨by decide, by decide⟩ ⟨by decide, by decide⟩ dX3_lays_12 (fun _ _ h => h.elim) (fun v1 w2 r3 => ?_)
        obtain ⟨rfl, hw2⟩ := r3
        rw [hw2]
        show V D 6 A p l e (rmL 3 0 0) s m args below meth c Q 0 0 (ml cy ad M) 15 [(5, vi d), (0, .ref (ad 0)), (1, vi x), (2, vi d0), (3, vi e9), (4, vi cap)] [vi (bI (wk h d))]
        refine V.if_eqB C 32 dX3_lays_15 (by decide) (fun h15 => ?_) (fun h15 => ?_)
        · skip
          refine V.iinc C (lc2 := [(5, vi (d + (-1))), (0, .ref (ad 0)), (1, vi x), (2, vi d0), (3, vi e9), (4, vi cap)]) dX3_lays_32 0 rfl (by decide) rfl ?_
          refine V.goto C 3 dX3_lays_35 (by decide) ?_
          exact ih3 (d + (-1)) (by omega) (by omega) (by rw [e2, ld_at (by omega), if_neg (by rw [h15]; simp)]; rfl) (by omega)
        · skip
          refine V.aload_n C dX3_lays_18 1 rfl ?_
          refine V.getf C (v := .ref (ad 17)) 0 rfl rfl inX3 17 (by decide) fl_X3_53 (fun _ h => h) rfl dX3_lays_19 ?_
          refine V.iload C dX3_lays_22 0 rfl ?_
          have lr := hLr d (by omega) (by omega)
          refine V.iald C (v := sL.1 d) 15 rfl (by omega) (by omega) (by decide) (ld_ar (by omega) (hL.1 d (by omega) (by omega))) dX3_lays_24 ?_
          refine V.iload_n C dX3_lays_25 4 rfl ?_
          refine V.iadd C dX3_lays_26 ?_
          refine V.iload C dX3_lays_27 5 rfl ?_
          refine V.icmp_le C 38 dX3_lays_29 (by decide) ⟨by omega, by omega⟩ ⟨by omega, by omega⟩ (fun h29 => ?_) (fun h29 => ?_)
          · skip
            refine V.iload C dX3_lays_38 0 rfl ?_
            refine V.iload_n C dX3_lays_40 2 rfl ?_
            refine V.icmp_lt C 58 dX3_lays_41 (by decide) ⟨by omega, by omega⟩ ⟨by omega, by omega⟩ (fun h41 => (by exact absurd h41 h6)) (fun h41 => ?_)
            refine V.aload_n C dX3_lays_44 1 rfl ?_
            refine V.getf C (v := .ref (ad 17)) 0 rfl rfl inX3 17 (by decide) fl_X3_53 (fun _ h => h) rfl dX3_lays_45 ?_
            refine V.iload C dX3_lays_48 0 rfl ?_
            refine V.dup2 C dX3_lays_50 rfl rfl ?_
            refine V.iald C (v := sL.1 d) 15 rfl (by omega) (by omega) (by decide) (ld_ar (by omega) (hL.1 d (by omega) (by omega))) dX3_lays_51 ?_
            refine V.iload_n C dX3_lays_52 4 rfl ?_
            refine V.iadd C dX3_lays_53 ?_
            refine V.iast C 15 rfl (by omega) (by omega) (by decide) dX3_lays_54 (mput_17 (by omega)) ?_
            refine V.goto C 68 dX3_lays_55 (by decide) ?_
            rw [hQ]
            exact V.vret C dX3_lays_68 (by decide) (by decide) (⟨rfl, _, rfl, ⟨fun k k17 k0 => upM_off k17, fun j hj => upM_n (Or.inl (by decide))⟩, by rw [lay1_at (t := d) (by rw [e2, ld_at (by omega), if_pos ⟨h15, h29⟩]) (by omega)]; exact ⟨fun j j0 j1 => by by_cases c : j = d; (rw [c, upM_s]; simp); (rw [upM_n (Or.inr c), hL.1 j j0 j1]; simp [c]), by rw [upM_n (Or.inl (by decide))]; exact hL.2⟩⟩)
          · skip
            refine V.iinc C (lc2 := [(5, vi (d + (-1))), (0, .ref (ad 0)), (1, vi x), (2, vi d0), (3, vi e9), (4, vi cap)]) dX3_lays_32 0 rfl (by decide) rfl ?_
            refine V.goto C 3 dX3_lays_35 (by decide) ?_
            exact ih3 (d + (-1)) (by omega) (by omega) (by rw [e2, ld_at (by omega), if_neg (by omega)]; rfl) (by omega)
  exact loop3 _ d0 (by omega) (by omega) rfl (Nat.lt_succ_self _)
set_option maxHeartbeats 4000000 in
set_option maxRecDepth 100000 in
theorem c_m_levels (l : Launch) (D : va_G) (cy : Nat → ClassId) (sa : Nat → Addr) (hfl : l.stackTraces = false) (ad : Nat → Nat) (M : Nat → Int → Int) (h : Int → Bool) (td : Int) (n : Nat) (q : Nat → Nat → Int) (rq : Nat → Nat) (hmi : MI h td n q rq M) (x z cap : Int) (x0 : 0 ≤ x) (x1 : x ≤ z) (z1 : z < 720) (c0 : 1 ≤ cap) (c1 : cap ≤ 99) : Ct l D cy sa yX3_levels cX3_levels 6 none 5 0 0 (ml cy ad M) [.ref (ad 0), vi x, vi z, vi cap] (fun v ws2 => v = none ∧ ∃ M2, ws2 = ml cy ad M2 ∧ MI h td n q rq M2 ∧ M2 0 0 = M 0 0 ∧ HL (lvl h q n cap x z) M2) no_x := by
  refine Ct.of (own := RX3) (lc := [(0, .ref (ad 0)), (1, vi x), (2, vi z), (3, vi cap)]) (by decide +kernel) hfl (Nat.le_of_ble_eq_true rfl) rfl rfl ?_
  intro p e s m args below meth c A C hex hnm
  generalize hQ : vx_MQ below (Qo D (fun v ws2 => v = none ∧ ∃ M2, ws2 = ml cy ad M2 ∧ MI h td n q rq M2 ∧ M2 0 0 = M 0 0 ∧ HL (lvl h q n cap x z) M2) A) (Xo D no_x A) args s 0 0 A = Q
  replace hQ := hQ.symm
  obtain ⟨hch, ⟨htd, td0, td1⟩, ⟨hmn, hn8⟩, hR, hZ, hQ12⟩ := id hmi
  refine V.aload_n C dX3_levels_0 0 rfl ?_
  refine V.callV C (As := []) (st := []) (wr := []) kV_X3_97 (c_m_marks l D cy sa hfl ad M h td n q rq (hmi)) rfl 0 rfl rfl rfl rfl (Nat.le_of_ble_eq_true rfl) ⟨by decide, by decide⟩ ⟨by decide, by decide⟩ dX3_levels_1 (fun _ _ h => h.elim) (fun v1 w2 r3 => ?_)
  obtain ⟨rfl, M1, hw2, fr1, mk1⟩ := r3
  rw [hw2]
  have hmi1 : MI h td n q rq M1 := (hmi).same (fun k k2 k12 => fr1 k (by omega) (by omega) (by omega)) (by rw [fr1 0 (by decide) (by decide) (by decide)]) (by rw [fr1 0 (by decide) (by decide) (by decide)])
  have hR1 := hmi1.2.2.2.1
  show V D 6 A p l e (rmL 5 0 0) s m args below meth c Q 0 0 (ml cy ad M1) 4 [(0, .ref (ad 0)), (1, vi x), (2, vi z), (3, vi cap)] []
  refine V.aload_n C dX3_levels_4 0 rfl ?_
  refine V.iconst C dX3_levels_5 ?_
  refine V.putf C (v := vi 0) (ty := .int) 0 rfl rfl inX3 tyX3 tyX3_ok nmX3 18 (by decide) fl_X3_123 (fun _ h => h) rfl (by decide +kernel) rfl rfl (Nat.le_of_ble_eq_true rfl) dX3_levels_6 mput_0_18 ?_
  refine V.iconst C dX3_levels_9 ?_
  refine V.istore C (lc2 := [(4, vi 0), (0, .ref (ad 0)), (1, vi x), (2, vi z), (3, vi cap)]) dX3_levels_10 (by decide) rfl ?_
  have loop12 : ∀ (fz : Nat) (d : Int) (M4 : Nat → Int → Int), (0 ≤ d) → (d ≤ 720) → (FL M1 M4) → (∀ j, 0 ≤ j → j < d → M4 17 j = 0) → (M4 0 18 = 0) → ((720 - d).toNat < fz) → V D 6 A p l e (rmL 5 0 0) s m args below meth c Q 0 0 (ml cy ad M4) 12 [(4, vi d), (0, .ref (ad 0)), (1, vi x), (2, vi z), (3, vi cap)] [] := by
    intro fz
    induction fz with
    | zero => intro d M4 e0 e1 e2 e3 e4 hf; exact absurd hf (Nat.not_lt_zero _)
    | succ fz ih12 =>
      intro d M4 e0 e1 e2 e3 e4 hf12
      refine V.iload C dX3_levels_12 0 rfl ?_
      refine V.sipush C dX3_levels_14 (by decide) ?_
      refine V.icmp_ge C 34 dX3_levels_17 (by decide) ⟨by omega, by omega⟩ ⟨by decide, by decide⟩ (fun h17 => ?_) (fun h17 => ?_)
      · skip
        refine V.iload_n C dX3_levels_34 2 rfl ?_
        refine V.istore C (lc2 := [(4, vi x), (0, .ref (ad 0)), (1, vi x), (2, vi z), (3, vi cap)]) dX3_levels_35 (by decide) rfl ?_
        have loop37 : ∀ (fz : Nat) (d : Int) (M5 : Nat → Int → Int) (sT : (Int → Int) × Int), (x ≤ d) → (d ≤ z + 1) → (FL M1 M5) → (HL sT M5) → (∀ j, 0 ≤ j → j < 720 → 0 ≤ sT.1 j ∧ sT.1 j ≤ 99) → (lvl h q n cap x z = lay h q n cap x (8 * (z + 1)) (8 * d) sT) → ((z + 1 - d).toNat < fz) → V D 6 A p l e (rmL 5 0 0) s m args below meth c Q 0 0 (ml cy ad M5) 37 [(4, vi d), (0, .ref (ad 0)), (1, vi x), (2, vi z), (3, vi cap)] [] := by
          intro fz
          induction fz with
          | zero => intro d M5 sT e0 e1 e2 e3 e4 e5 hf; exact absurd hf (Nat.not_lt_zero _)
          | succ fz ih37 =>
            intro d M5 sT e0 e1 e2 e3 e4 e5 hf37
            have hmi5 := e2.mi hmi1
            have hR5 := hmi5.2.2.2.1
            have mk5 := e2.mk mk1
            refine V.iload C dX3_levels_37 0 rfl ?_
            refine V.iload_n C dX3_levels_39 3 rfl ?_
            refine V.icmp_gt C 99 dX3_levels_40 (by decide) ⟨by omega, by omega⟩ ⟨by omega, by omega⟩ (fun h40 => ?_) (fun h40 => ?_)
            · skip
              rw [hQ]
              exact V.vret C dX3_levels_99 (by decide) (by decide) (⟨rfl, M5, rfl, hmi5, by rw [e2.2 0 (by decide), fr1 0 (by decide) (by decide) (by decide)], by rw [e5, lay_end (by omega)]; exact e3⟩)
            · skip
              refine V.iconst C dX3_levels_43 ?_
              refine V.istore C (lc2 := [(5, vi 0), (4, vi d), (0, .ref (ad 0)), (1, vi x), (2, vi z), (3, vi cap)]) dX3_levels_44 (by decide) rfl ?_
              have loop46 : ∀ (fz : Nat) (i : Int) (M6 : Nat → Int → Int) (sU : (Int → Int) × Int), (0 ≤ i) → (i ≤ (n : Int)) → (FL M1 M6) → (HL sU M6) → (∀ j, 0 ≤ j → j < 720 → 0 ≤ sU.1 j ∧ sU.1 j ≤ 99) → (lvl h q n cap x z = lay h q n cap x (8 * (z + 1)) (8 * d + i) sU) → (((n : Int) - i).toNat < fz) → V D 6 A p l e (rmL 5 0 0) s m args below meth c Q 0 0 (ml cy ad M6) 46 [(5, vi i), (4, vi d), (0, .ref (ad 0)), (1, vi x), (2, vi z), (3, vi cap)] [] := by
                intro fz
                induction fz with
                | zero => intro i M6 sU f0 f1 f2 f3 f4 f5 hf; exact absurd hf (Nat.not_lt_zero _)
                | succ fz ih46 =>
                  intro i M6 sU f0 f1 f2 f3 f4 f5 hf46
                  have hmi6 := f2.mi hmi1
                  have hR6 := hmi6.2.2.2.1
                  have mk6 := f2.mk mk1
                  refine V.iload C dX3_levels_46 0 rfl ?_
                  refine V.aload_n C dX3_levels_48 2 rfl ?_
                  refine V.getf C (v := vi (n : Int)) 0 rfl rfl inX3 3 (by decide) fl_X3_64 (fun _ h => h) (by show some _ = some _; rw [hmi6.2.2.1.1]) dX3_levels_49 ?_
                  refine V.icmp_ge C 93 dX3_levels_52 (by decide) ⟨by omega, by omega⟩ ⟨by omega, by omega⟩ (fun h52 => ?_) (fun h52 => ?_)
                  · skip
                    refine V.iinc C (lc2 := [(4, vi (d + 1)), (5, vi i), (0, .ref (ad 0)), (1, vi x), (2, vi z), (3, vi cap)]) dX3_levels_93 1 rfl (by decide) rfl ?_
                    refine V.goto C 37 dX3_levels_96 (by decide) ?_
                    exact V.sub [0, 2, 3, 4, 5] rfl (ih37 (d + 1) M6 sU (by omega) (by omega) f2 f3 f4 (by rw [f5, lay_skip (b := 8 * (d + 1)) (fun t t0 t1 => U8_off (d := d) (by omega) t1) (by omega) (by omega)]) (by omega))
                  · skip
                    refine V.aload_n C dX3_levels_55 2 rfl ?_
                    refine V.getf C (v := .ref (ad 13)) 0 rfl rfl inX3 13 (by decide) fl_X3_41 (fun _ h => h) rfl dX3_levels_56 ?_
                    refine V.sipush C dX3_levels_59 (by decide) ?_
                    refine V.iload C dX3_levels_62 0 rfl ?_
                    refine V.imul C dX3_levels_64 ?_
                    refine V.iload C dX3_levels_65 1 rfl ?_
                    refine V.iadd C dX3_levels_67 ?_
                    refine V.zald C (v := bI (dueR h (q i.toNat) d)) 11 rfl (by omega) (by omega) (by decide) (ld_ar (by omega) ((mk6 i f0 (by omega)).1 d (by omega) (by omega))) dX3_levels_68 ?_
                    refine V.if_eqB C 87 dX3_levels_69 (by decide) (fun h69 => ?_) (fun h69 => ?_)
                    · skip
                      refine V.iinc C (lc2 := [(5, vi (i + 1)), (4, vi d), (0, .ref (ad 0)), (1, vi x), (2, vi z), (3, vi cap)]) dX3_levels_87 0 rfl (by decide) rfl ?_
                      refine V.goto C 46 dX3_levels_90 (by decide) ?_
                      exact ih46 (i + 1) M6 sU (by omega) (by omega) f2 f3 f4 (by rw [f5, lay_U f0 (by omega) hn8 (by omega), if_neg (by rw [h69]; decide)]) (by omega)
                    · skip
                      have p3 := (hR6 i f0 (by omega)).2.2.2.2.2.2.1
                      refine V.aload_n C dX3_levels_72 2 rfl ?_
                      refine V.iload_n C dX3_levels_73 3 rfl ?_
                      refine V.iload C dX3_levels_74 1 rfl ?_
                      refine V.aload_n C dX3_levels_76 2 rfl ?_
                      refine V.getf C (v := .ref (ad 8)) 0 rfl rfl inX3 8 (by decide) fl_X3_26 (fun _ h => h) rfl dX3_levels_77 ?_
                      refine V.iload C dX3_levels_80 0 rfl ?_
                      refine V.iald C (v := q (i).toNat 3) 6 rfl (by omega) (by omega) (by decide) (ld_ar (by omega) ((hR6 _ (f0) (by omega)).1.2.2.2.2.1)) dX3_levels_82 ?_
                      refine V.iload_n C dX3_levels_83 5 rfl ?_
                      refine V.callV C (As := [vi x, vi d, vi (q (i).toNat 3), vi cap]) (st := []) (wr := []) kV_X3_126 (c_m_lays l D cy sa hfl ad M6 h hmi6.1 x d (q (i).toNat 3) cap (by omega) (by omega) (by omega) c0 c1 (by omega) (by omega) sU f3 f4) rfl 0 rfl rfl rfl rfl (Nat.le_of_ble_eq_true rfl) ⟨by decide, by decide⟩ ⟨by decide, by decide⟩ dX3_levels_84 (fun _ _ h => h.elim) (fun v4 w5 r6 => ?_)
                      obtain ⟨rfl, M7, hw5, l2, l3⟩ := r6
                      rw [hw5]
                      show V D 6 A p l e (rmL 5 0 0) s m args below meth c Q 0 0 (ml cy ad M7) 87 [(5, vi i), (4, vi d), (0, .ref (ad 0)), (1, vi x), (2, vi z), (3, vi cap)] []
                      refine V.iinc C (lc2 := [(5, vi (i + 1)), (4, vi d), (0, .ref (ad 0)), (1, vi x), (2, vi z), (3, vi cap)]) dX3_levels_87 0 rfl (by decide) rfl ?_
                      refine V.goto C 46 dX3_levels_90 (by decide) ?_
                      exact ih46 (i + 1) M7 (lay1 (wk h) cap x d (q i.toNat 3) sU) (by omega) (by omega) (f2.tr l2) l3 (lay1_rng2 (by omega) (by omega) c1 (by omega) f4) (by rw [f5, lay_U f0 (by omega) hn8 (by omega), if_pos h69]) (by omega)
              exact loop46 _ 0 M5 sT (by omega) (by omega) e2 e3 e4 (by rw [e5, Int.add_zero]) (Nat.lt_succ_self _)
        exact loop37 _ x M4 (fun _ => 0, 0) (by omega) (by omega) e2 (⟨fun j j0 j1 => e3 j j0 (by omega), e4⟩) (fun j _ _ => by simp) rfl (Nat.lt_succ_self _)
      · skip
        refine V.aload_n C dX3_levels_20 1 rfl ?_
        refine V.getf C (v := .ref (ad 17)) 0 rfl rfl inX3 17 (by decide) fl_X3_53 (fun _ h => h) rfl dX3_levels_21 ?_
        refine V.iload C dX3_levels_24 0 rfl ?_
        refine V.iconst C dX3_levels_26 ?_
        refine V.iast C 15 rfl (by omega) (by omega) (by decide) dX3_levels_27 (mput_17 (by omega)) ?_
        refine V.iinc C (lc2 := [(4, vi (d + 1)), (0, .ref (ad 0)), (1, vi x), (2, vi z), (3, vi cap)]) dX3_levels_28 0 rfl (by decide) rfl ?_
        refine V.goto C 12 dX3_levels_31 (by decide) ?_
        exact ih12 (d + 1) (upM M4 17 d 0) (by omega) (by omega) (e2.tr ⟨fun k k17 _ => upM_off k17, fun j _ => upM_n (Or.inl (by decide))⟩) (fun j j0 j1 => by by_cases c : j = d; (rw [c]; exact upM_s _ _ _ _); (rw [upM_n (Or.inr c)]; exact e3 j j0 (by omega))) (by rw [upM_n (Or.inl (by decide))]; exact e4) (by omega)
  exact loop12 _ 0 (upM M1 0 18 0) (by omega) (by omega) (⟨fun k _ k0 => upM_off k0, fun j hj => upM_n (Or.inr hj)⟩) (fun j _ _ => by omega) (upM_s _ _ _ _) (Nat.lt_succ_self _)
set_option maxHeartbeats 4000000 in
set_option maxRecDepth 100000 in
theorem c_m_barsLevel (l : Launch) (D : va_G) (cy : Nat → ClassId) (sa : Nat → Addr) (hfl : l.stackTraces = false) (ad : Nat → Nat) (M : Nat → Int → Int) (x : Int) (hx : inR x) (z : Int) (hz : inR z) (cap : Int) (hcap : inR cap) (d : Int) (hd : inR d) : Ct l D cy sa yX3_barsLevel cX3_barsLevel 5 (some .int) 7 0 0 (ml cy ad M) [.ref (ad 0), vi x, vi z, vi cap, vi d] (fun v ws2 => v = some (vi (kLevelled x z cap d)) ∧ ws2 = ml cy ad M) no_x := by
  refine Ct.of (own := RX3) (lc := [(0, .ref (ad 0)), (1, vi x), (2, vi z), (3, vi cap), (4, vi d)]) (by decide +kernel) hfl (Nat.le_of_ble_eq_true rfl) rfl rfl ?_
  intro p e s m args below meth c A C hex hnm
  generalize hQ : vx_MQ below (Qo D (fun v ws2 => v = some (vi (kLevelled x z cap d)) ∧ ws2 = ml cy ad M) A) (Xo D no_x A) args s 0 0 A = Q
  replace hQ := hQ.symm
  skip
  obtain ⟨hxl, hxr⟩ := hx
  obtain ⟨hzl, hzr⟩ := hz
  obtain ⟨hcapl, hcapr⟩ := hcap
  obtain ⟨hdl, hdr⟩ := hd
  have ks := kSpan_rng x z
  refine V.iload C dX3_barsLevel_0 4 rfl ?_
  refine V.callS C (As := [vi d]) (st := []) (wr := []) kS_X3_67 (c_m_isDay l D cy sa hfl _ d ⟨by omega, by omega⟩) rfl rfl rfl (Nat.le_of_ble_eq_true rfl) ⟨by decide, by decide⟩ ⟨by decide, by decide⟩ dX3_barsLevel_2 (fun _ _ h => h.elim) (fun v1 w2 r3 => ?_)
  obtain ⟨rfl, hw2⟩ := r3
  rw [hw2]
  show V D 5 A p l e (rmL 7 0 0) s m args below meth c Q 0 0 (ml cy ad M) 5 [(0, .ref (ad 0)), (1, vi x), (2, vi z), (3, vi cap), (4, vi d)] [vi (bI (isDy d))]
  refine V.if_neB C 12 dX3_barsLevel_5 (by decide) (fun h5 => ?_) (fun h5 => ?_)
  · skip
    refine V.iload_n C dX3_barsLevel_12 1 rfl ?_
    refine V.iload_n C dX3_barsLevel_13 2 rfl ?_
    refine V.callS C (As := [vi x, vi z]) (st := []) (wr := []) kS_X3_74 (c_m_barsSpan l D cy sa hfl _ x z ⟨by omega, by omega⟩ ⟨by omega, by omega⟩) rfl rfl rfl (Nat.le_of_ble_eq_true rfl) ⟨by decide, by decide⟩ ⟨by decide, by decide⟩ dX3_barsLevel_14 (fun _ _ h => h.elim) (fun v4 w5 r6 => ?_)
    obtain ⟨rfl, hw5⟩ := r6
    rw [hw5]
    show V D 5 A p l e (rmL 7 0 0) s m args below meth c Q 0 0 (ml cy ad M) 17 [(0, .ref (ad 0)), (1, vi x), (2, vi z), (3, vi cap), (4, vi d)] [vi (kSpan x z)]
    refine V.if_le C 28 dX3_barsLevel_17 (by decide) ⟨by omega, by omega⟩ (fun h17 => ?_) (fun h17 => ?_)
    · skip
      refine V.iload_n C dX3_barsLevel_28 3 rfl ?_
      refine V.iconst C dX3_barsLevel_29 ?_
      refine V.bipush C dX3_barsLevel_30 (by decide) ?_
      refine V.callS C (As := [vi cap, vi 1, vi 99]) (st := []) (wr := []) kS_X3_60 (c_m_in l D cy sa hfl _ cap 1 99 ⟨by omega, by omega⟩ ⟨by decide, by decide⟩ ⟨by decide, by decide⟩) rfl rfl rfl (Nat.le_of_ble_eq_true rfl) ⟨by decide, by decide⟩ ⟨by decide, by decide⟩ dX3_barsLevel_32 (fun _ _ h => h.elim) (fun v7 w8 r9 => ?_)
      obtain ⟨rfl, hw8⟩ := r9
      rw [hw8]
      show V D 5 A p l e (rmL 7 0 0) s m args below meth c Q 0 0 (ml cy ad M) 35 [(0, .ref (ad 0)), (1, vi x), (2, vi z), (3, vi cap), (4, vi d)] [vi (bI (inB cap 1 99))]
      refine V.if_eqB C 42 dX3_barsLevel_35 (by decide) (fun h35 => ?_) (fun h35 => ?_)
      · skip
        refine V.iconst C dX3_barsLevel_42 ?_
        rw [hQ]
        exact V.iret C dX3_barsLevel_43 (by decide) (by decide) (⟨ri (by rw [kLevelled, if_pos h5, kLevel, if_pos (by omega), if_neg (fun z9 => by rw [inB_iff.mpr z9] at h35; cases h35)]), rfl⟩)
      · skip
        refine V.iconst C dX3_barsLevel_38 ?_
        refine V.goto C 43 dX3_barsLevel_39 (by decide) ?_
        rw [hQ]
        exact V.iret C dX3_barsLevel_43 (by decide) (by decide) (⟨ri (by rw [kLevelled, if_pos h5, kLevel, if_pos (by omega), if_pos (inB_iff.mp h35)]), rfl⟩)
    · skip
      refine V.iload_n C dX3_barsLevel_20 1 rfl ?_
      refine V.iload_n C dX3_barsLevel_21 2 rfl ?_
      refine V.callS C (As := [vi x, vi z]) (st := []) (wr := []) kS_X3_74 (c_m_barsSpan l D cy sa hfl _ x z ⟨by omega, by omega⟩ ⟨by omega, by omega⟩) rfl rfl rfl (Nat.le_of_ble_eq_true rfl) ⟨by decide, by decide⟩ ⟨by decide, by decide⟩ dX3_barsLevel_22 (fun _ _ h => h.elim) (fun v10 w11 r12 => ?_)
      obtain ⟨rfl, hw11⟩ := r12
      rw [hw11]
      show V D 5 A p l e (rmL 7 0 0) s m args below meth c Q 0 0 (ml cy ad M) 25 [(0, .ref (ad 0)), (1, vi x), (2, vi z), (3, vi cap), (4, vi d)] [vi (kSpan x z)]
      refine V.goto C 43 dX3_barsLevel_25 (by decide) ?_
      rw [hQ]
      exact V.iret C dX3_barsLevel_43 (by decide) (by decide) (⟨ri (by rw [kLevelled, if_pos h5, kLevel, if_neg (by omega)]), rfl⟩)
  · skip
    refine V.iconst C dX3_barsLevel_8 ?_
    refine V.goto C 43 dX3_barsLevel_9 (by decide) ?_
    rw [hQ]
    exact V.iret C dX3_barsLevel_43 (by decide) (by decide) (⟨ri (by rw [kLevelled, if_neg (by rw [h5]; decide)]), rfl⟩)
theorem kLevelled_rng (x z cap d : Int) : 0 ≤ kLevelled x z cap d ∧ kLevelled x z cap d ≤ 2 := by
  have := kSpan_rng x z
  unfold kLevelled kLevel
  split
  · split
    · split <;> omega
    · omega
  · omega
theorem kLevelled_z {x z cap d : Int} (h : kLevelled x z cap d ≤ 0) : kLevelled x z cap d = 0 ∧ (0 ≤ x ∧ x ≤ z ∧ z < 720) ∧ (1 ≤ cap ∧ cap ≤ 99) ∧ 0 ≤ d ∧ d < 720 := by
  unfold kLevelled at h ⊢
  split at h
  · rename_i g
    have g2 := isDy_iff.mp g
    rw [if_pos g]
    unfold kLevel at h ⊢
    split at h
    · rename_i g3
      have g4 := kSpan_z (show kSpan x z ≤ 0 by omega)
      rw [if_pos g3]
      split at h
      · rename_i g5
        rw [if_pos g5]; omega
      · omega
    · rename_i g3
      have := kSpan_rng x z
      omega
  · omega
theorem kLevelled_0 {x z cap : Int} : kLevelled x z cap 0 = kLevel x z cap := by rw [kLevelled, if_pos (by decide)]
set_option maxHeartbeats 4000000 in
set_option maxRecDepth 100000 in
theorem c_m_level (l : Launch) (D : va_G) (cy : Nat → ClassId) (sa : Nat → Addr) (hfl : l.stackTraces = false) (ad : Nat → Nat) (M : Nat → Int → Int) (h : Int → Bool) (td : Int) (n : Nat) (q : Nat → Nat → Int) (rq : Nat → Nat) (hmi : MI h td n q rq M) (x : Int) (hx : inR x) (z : Int) (hz : inR z) (cap : Int) (hcap : inR cap) : Ct l D cy sa yX3_level cX3_level 4 (some .int) 8 0 0 (ml cy ad M) [.ref (ad 0), vi x, vi z, vi cap] (fun v ws2 => ∃ y, v = some (vi y) ∧ ((kLevel x z cap) = 0 → y = (lvl h q n cap x z).2) ∧ ∃ M2, ws2 = ml cy ad M2 ∧ M2 0 0 = (kLevel x z cap) ∧ MI h td n q rq M2) no_x := by
  refine Ct.of (own := RX3) (lc := [(0, .ref (ad 0)), (1, vi x), (2, vi z), (3, vi cap)]) (by decide +kernel) hfl (Nat.le_of_ble_eq_true rfl) rfl rfl ?_
  intro p e s m args below meth c A C hex hnm
  generalize hQ : vx_MQ below (Qo D (fun v ws2 => ∃ y, v = some (vi y) ∧ ((kLevel x z cap) = 0 → y = (lvl h q n cap x z).2) ∧ ∃ M2, ws2 = ml cy ad M2 ∧ M2 0 0 = (kLevel x z cap) ∧ MI h td n q rq M2) A) (Xo D no_x A) args s 0 0 A = Q
  replace hQ := hQ.symm
  obtain ⟨hch, ⟨htd, td0, td1⟩, ⟨hmn, hn8⟩, hR, hZ, hQ12⟩ := id hmi
  obtain ⟨hxl, hxr⟩ := hx
  obtain ⟨hzl, hzr⟩ := hz
  obtain ⟨hcapl, hcapr⟩ := hcap
  have lkr := kLevelled_rng x z cap 0
  refine V.aload_n C dX3_level_0 0 rfl ?_
  refine V.aload_n C dX3_level_1 0 rfl ?_
  refine V.iload_n C dX3_level_2 1 rfl ?_
  refine V.iload_n C dX3_level_3 2 rfl ?_
  refine V.iload_n C dX3_level_4 3 rfl ?_
  refine V.iconst C dX3_level_5 ?_
  refine V.callV C (As := [vi x, vi z, vi cap, vi 0]) (st := [.ref (ad 0)]) (wr := []) kV_X3_130 (c_m_barsLevel l D cy sa hfl ad M x ⟨by omega, by omega⟩ z ⟨by omega, by omega⟩ cap ⟨by omega, by omega⟩ 0 ⟨by omega, by omega⟩) rfl 0 rfl rfl rfl rfl (Nat.le_of_ble_eq_true rfl) ⟨by decide, by decide⟩ ⟨by decide, by decide⟩ dX3_level_6 (fun _ _ h => h.elim) (fun v1 w2 r3 => ?_)
  obtain ⟨rfl, hw2⟩ := r3
  rw [hw2]
  show V D 4 A p l e (rmL 8 0 0) s m args below meth c Q 0 0 (ml cy ad M) 9 [(0, .ref (ad 0)), (1, vi x), (2, vi z), (3, vi cap)] [vi (kLevelled x z cap 0), .ref (ad 0)]
  refine V.putf C (v := vi (kLevelled x z cap 0)) (ty := .int) 0 rfl rfl inX3 tyX3 tyX3_ok nmX3 0 (by decide) fl_X3_56 (fun _ h => h) rfl (by decide +kernel) rfl rfl (Nat.le_of_ble_eq_true rfl) dX3_level_9 mput_0_0 ?_
  refine V.aload_n C dX3_level_12 0 rfl ?_
  refine V.getf C (v := vi (kLevelled x z cap 0)) 0 rfl rfl inX3 0 (by decide) fl_X3_56 (fun _ h => h) (by show some _ = some _; rw [upM_s]) dX3_level_13 ?_
  refine V.if_le C 21 dX3_level_16 (by decide) ⟨by omega, by omega⟩ (fun h16 => ?_) (fun h16 => ?_)
  · skip
    have lk := kLevelled_z h16
    refine V.aload_n C dX3_level_21 0 rfl ?_
    refine V.iload_n C dX3_level_22 1 rfl ?_
    refine V.iload_n C dX3_level_23 2 rfl ?_
    refine V.iload_n C dX3_level_24 3 rfl ?_
    refine V.callV C (As := [vi x, vi z, vi cap]) (st := []) (wr := []) kV_X3_134 (c_m_levels l D cy sa hfl ad (upM M 0 0 (kLevelled x z cap 0)) h td n q rq hmi.t x z cap lk.2.1.1 lk.2.1.2.1 lk.2.1.2.2 lk.2.2.1.1 lk.2.2.1.2) rfl 0 rfl rfl rfl rfl (Nat.le_of_ble_eq_true rfl) ⟨by decide, by decide⟩ ⟨by decide, by decide⟩ dX3_level_25 (fun _ _ h => h.elim) (fun v4 w5 r6 => ?_)
    obtain ⟨rfl, M1, hw5, hmi1, ht1, hl1⟩ := r6
    rw [hw5]
    show V D 4 A p l e (rmL 8 0 0) s m args below meth c Q 0 0 (ml cy ad M1) 28 [(0, .ref (ad 0)), (1, vi x), (2, vi z), (3, vi cap)] []
    refine V.aload_n C dX3_level_28 0 rfl ?_
    refine V.getf C (v := vi ((lvl h q n cap x z).2)) 0 rfl rfl inX3 18 (by decide) fl_X3_123 (fun _ h => h) (by show some _ = some _; rw [hl1.2]) dX3_level_29 ?_
    rw [hQ]
    exact V.iret C dX3_level_32 (by decide) (by decide) (⟨_, rfl, fun _ => rfl, _, rfl, by rw [ht1]; rw [← kLevelled_0]; exact upM_s _ _ _ _, hmi1⟩)
  · skip
    refine V.iconst C dX3_level_19 ?_
    rw [hQ]
    exact V.iret C dX3_level_20 (by decide) (by decide) (⟨_, rfl, fun e9 => absurd (show kLevelled x z cap 0 ≤ 0 by rw [kLevelled_0]; omega) h16, _, rfl, by rw [← kLevelled_0]; exact upM_s _ _ _ _, hmi.t⟩)
set_option maxHeartbeats 4000000 in
set_option maxRecDepth 100000 in
theorem c_m_levelled (l : Launch) (D : va_G) (cy : Nat → ClassId) (sa : Nat → Addr) (hfl : l.stackTraces = false) (ad : Nat → Nat) (M : Nat → Int → Int) (h : Int → Bool) (td : Int) (n : Nat) (q : Nat → Nat → Int) (rq : Nat → Nat) (hmi : MI h td n q rq M) (x : Int) (hx : inR x) (z : Int) (hz : inR z) (cap : Int) (hcap : inR cap) (d : Int) (hd : inR d) : Ct l D cy sa yX3_levelled cX3_levelled 5 (some .int) 8 0 0 (ml cy ad M) [.ref (ad 0), vi x, vi z, vi cap, vi d] (fun v ws2 => ∃ y, v = some (vi y) ∧ ((kLevelled x z cap d) = 0 → y = (lvl h q n cap x z).1 d) ∧ ∃ M2, ws2 = ml cy ad M2 ∧ M2 0 0 = (kLevelled x z cap d) ∧ MI h td n q rq M2) no_x := by
  refine Ct.of (own := RX3) (lc := [(0, .ref (ad 0)), (1, vi x), (2, vi z), (3, vi cap), (4, vi d)]) (by decide +kernel) hfl (Nat.le_of_ble_eq_true rfl) rfl rfl ?_
  intro p e s m args below meth c A C hex hnm
  generalize hQ : vx_MQ below (Qo D (fun v ws2 => ∃ y, v = some (vi y) ∧ ((kLevelled x z cap d) = 0 → y = (lvl h q n cap x z).1 d) ∧ ∃ M2, ws2 = ml cy ad M2 ∧ M2 0 0 = (kLevelled x z cap d) ∧ MI h td n q rq M2) A) (Xo D no_x A) args s 0 0 A = Q
  replace hQ := hQ.symm
  obtain ⟨hch, ⟨htd, td0, td1⟩, ⟨hmn, hn8⟩, hR, hZ, hQ12⟩ := id hmi
  obtain ⟨hxl, hxr⟩ := hx
  obtain ⟨hzl, hzr⟩ := hz
  obtain ⟨hcapl, hcapr⟩ := hcap
  obtain ⟨hdl, hdr⟩ := hd
  have lkr := kLevelled_rng x z cap d
  refine V.aload_n C dX3_levelled_0 0 rfl ?_
  refine V.aload_n C dX3_levelled_1 0 rfl ?_
  refine V.iload_n C dX3_levelled_2 1 rfl ?_
  refine V.iload_n C dX3_levelled_3 2 rfl ?_
  refine V.iload_n C dX3_levelled_4 3 rfl ?_
  refine V.iload C dX3_levelled_5 4 rfl ?_
  refine V.callV C (As := [vi x, vi z, vi cap, vi d]) (st := [.ref (ad 0)]) (wr := []) kV_X3_130 (c_m_barsLevel l D cy sa hfl ad M x ⟨by omega, by omega⟩ z ⟨by omega, by omega⟩ cap ⟨by omega, by omega⟩ d ⟨by omega, by omega⟩) rfl 0 rfl rfl rfl rfl (Nat.le_of_ble_eq_true rfl) ⟨by decide, by decide⟩ ⟨by decide, by decide⟩ dX3_levelled_7 (fun _ _ h => h.elim) (fun v1 w2 r3 => ?_)
  obtain ⟨rfl, hw2⟩ := r3
  rw [hw2]
  show V D 5 A p l e (rmL 8 0 0) s m args below meth c Q 0 0 (ml cy ad M) 10 [(0, .ref (ad 0)), (1, vi x), (2, vi z), (3, vi cap), (4, vi d)] [vi (kLevelled x z cap d), .ref (ad 0)]
  refine V.putf C (v := vi (kLevelled x z cap d)) (ty := .int) 0 rfl rfl inX3 tyX3 tyX3_ok nmX3 0 (by decide) fl_X3_56 (fun _ h => h) rfl (by decide +kernel) rfl rfl (Nat.le_of_ble_eq_true rfl) dX3_levelled_10 mput_0_0 ?_
  refine V.aload_n C dX3_levelled_13 0 rfl ?_
  refine V.getf C (v := vi (kLevelled x z cap d)) 0 rfl rfl inX3 0 (by decide) fl_X3_56 (fun _ h => h) (by show some _ = some _; rw [upM_s]) dX3_levelled_14 ?_
  refine V.if_le C 22 dX3_levelled_17 (by decide) ⟨by omega, by omega⟩ (fun h17 => ?_) (fun h17 => ?_)
  · skip
    have lk := kLevelled_z h17
    refine V.aload_n C dX3_levelled_22 0 rfl ?_
    refine V.iload_n C dX3_levelled_23 1 rfl ?_
    refine V.iload_n C dX3_levelled_24 2 rfl ?_
    refine V.iload_n C dX3_levelled_25 3 rfl ?_
    refine V.callV C (As := [vi x, vi z, vi cap]) (st := []) (wr := []) kV_X3_134 (c_m_levels l D cy sa hfl ad (upM M 0 0 (kLevelled x z cap d)) h td n q rq hmi.t x z cap lk.2.1.1 lk.2.1.2.1 lk.2.1.2.2 lk.2.2.1.1 lk.2.2.1.2) rfl 0 rfl rfl rfl rfl (Nat.le_of_ble_eq_true rfl) ⟨by decide, by decide⟩ ⟨by decide, by decide⟩ dX3_levelled_26 (fun _ _ h => h.elim) (fun v4 w5 r6 => ?_)
    obtain ⟨rfl, M1, hw5, hmi1, ht1, hl1⟩ := r6
    rw [hw5]
    show V D 5 A p l e (rmL 8 0 0) s m args below meth c Q 0 0 (ml cy ad M1) 29 [(0, .ref (ad 0)), (1, vi x), (2, vi z), (3, vi cap), (4, vi d)] []
    refine V.aload_n C dX3_levelled_29 0 rfl ?_
    refine V.getf C (v := .ref (ad 17)) 0 rfl rfl inX3 17 (by decide) fl_X3_53 (fun _ h => h) rfl dX3_levelled_30 ?_
    refine V.iload C dX3_levelled_33 4 rfl ?_
    refine V.iald C (v := (lvl h q n cap x z).1 d) 15 rfl (by omega) (by omega) (by decide) (ld_ar (by omega) (hl1.1 d lk.2.2.2.1 lk.2.2.2.2)) dX3_levelled_35 ?_
    rw [hQ]
    exact V.iret C dX3_levelled_36 (by decide) (by decide) (⟨_, rfl, fun _ => rfl, _, rfl, by rw [ht1]; exact upM_s _ _ _ _, hmi1⟩)
  · skip
    refine V.iconst C dX3_levelled_20 ?_
    rw [hQ]
    exact V.iret C dX3_levelled_21 (by decide) (by decide) (⟨_, rfl, fun e9 => absurd (show kLevelled x z cap d ≤ 0 by omega) h17, _, rfl, by exact upM_s _ _ _ _, hmi.t⟩)
