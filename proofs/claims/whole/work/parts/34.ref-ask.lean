/-! the reference: questions to its marks -/
theorem MK.same {h : Int → Bool} {n : Nat} {q : Nat → Nat → Int} {M M1 : Nat → Int → Int} (hm : MK h n q M) (e13 : M1 13 = M 13) (e14 : M1 14 = M 14) (e15 : M1 15 = M 15) : MK h n q M1 := by
  intro x h0 h1
  rw [e13, e14, e15]
  exact hm x h0 h1
set_option maxHeartbeats 4000000 in
set_option maxRecDepth 100000 in
theorem c_m_dueAt (l : Launch) (D : va_G) (cy : Nat → ClassId) (sa : Nat → Addr) (hfl : l.stackTraces = false) (ad : Nat → Nat) (M : Nat → Int → Int) (h : Int → Bool) (td : Int) (n : Nat) (q : Nat → Nat → Int) (rq : Nat → Nat) (hmi : MI h td n q rq M) (hmk : MK h n q M) (x : Int) (g0 : 0 ≤ x) (g1 : x < (n : Int)) (kk : Int) (k0 : 0 ≤ kk) (hk : inR kk) : Ct l D cy sa yX3_dueAt cX3_dueAt 3 (some .int) 5 0 0 (ml cy ad M) [.ref (ad 0), vi x, vi kk] (fun v ws2 => v = some (vi (dk (dueR h (q x.toNat)) 0 kk)) ∧ ws2 = ml cy ad M) no_x := by
  refine Ct.of (own := RX3) (lc := [(0, .ref (ad 0)), (1, vi x), (2, vi kk)]) (by decide +kernel) hfl (Nat.le_of_ble_eq_true rfl) rfl rfl ?_
  intro p e s m args below meth c A C hex hnm
  generalize hQ : vx_MQ below (Qo D (fun v ws2 => v = some (vi (dk (dueR h (q x.toNat)) 0 kk)) ∧ ws2 = ml cy ad M) A) (Xo D no_x A) args s 0 0 A = Q
  replace hQ := hQ.symm
  obtain ⟨hch, ⟨htd, td0, td1⟩, ⟨hmn, hn8⟩, hR, hZ, hQ12⟩ := id hmi
  obtain ⟨hkl, hkr⟩ := hk
  have cr := ct_rng (dueR h (q x.toNat)) 0 720 (by decide)
  refine V.iload_n C dX3_dueAt_0 2 rfl ?_
  refine V.aload_n C dX3_dueAt_1 0 rfl ?_
  refine V.getf C (v := .ref (ad 15)) 0 rfl rfl inX3 15 (by decide) fl_X3_47 (fun _ h => h) rfl dX3_dueAt_2 ?_
  refine V.iload_n C dX3_dueAt_5 1 rfl ?_
  refine V.iald C (v := ct (dueR h (q x.toNat)) 0 720) 13 rfl (by omega) (by omega) (by decide) (ld_ar (by omega) ((hmk x g0 g1).2.1)) dX3_dueAt_6 ?_
  refine V.icmp_ge C 25 dX3_dueAt_7 (by decide) ⟨by omega, by omega⟩ ⟨by omega, by omega⟩ (fun h7 => ?_) (fun h7 => ?_)
  · skip
    refine V.iconst C dX3_dueAt_25 ?_
    rw [hQ]
    exact V.iret C dX3_dueAt_26 (by decide) (by decide) (⟨ri (dk_no k0 (by omega)).symm, rfl⟩)
  · skip
    refine V.aload_n C dX3_dueAt_10 0 rfl ?_
    refine V.getf C (v := .ref (ad 14)) 0 rfl rfl inX3 14 (by decide) fl_X3_44 (fun _ h => h) rfl dX3_dueAt_11 ?_
    refine V.sipush C dX3_dueAt_14 (by decide) ?_
    refine V.iload_n C dX3_dueAt_17 1 rfl ?_
    refine V.imul C dX3_dueAt_18 ?_
    refine V.iload_n C dX3_dueAt_19 2 rfl ?_
    refine V.iadd C dX3_dueAt_20 ?_
    refine V.iald C (v := dk (dueR h (q x.toNat)) 0 kk) 12 rfl (by omega) (by omega) (by decide) (ld_ar (by omega) ((hmk x g0 g1).2.2 kk k0 (by omega))) dX3_dueAt_21 ?_
    refine V.goto C 26 dX3_dueAt_22 (by decide) ?_
    rw [hQ]
    exact V.iret C dX3_dueAt_26 (by decide) (by decide) (⟨rfl, rfl⟩)
set_option maxHeartbeats 4000000 in
set_option maxRecDepth 100000 in
theorem c_m_countBefore (l : Launch) (D : va_G) (cy : Nat → ClassId) (sa : Nat → Addr) (hfl : l.stackTraces = false) (ad : Nat → Nat) (M : Nat → Int → Int) (h : Int → Bool) (td : Int) (n : Nat) (q : Nat → Nat → Int) (rq : Nat → Nat) (hmi : MI h td n q rq M) (hmk : MK h n q M) (x : Int) (g0 : 0 ≤ x) (g1 : x < (n : Int)) (e9 : Int) (b0 : 0 ≤ e9) (b1 : e9 ≤ 720) : Ct l D cy sa yX3_countBefore cX3_countBefore 4 (some .int) 5 0 0 (ml cy ad M) [.ref (ad 0), vi x, vi e9] (fun v ws2 => v = some (vi (ct (dueR h (q x.toNat)) 0 e9)) ∧ ws2 = ml cy ad M) no_x := by
  refine Ct.of (own := RX3) (lc := [(0, .ref (ad 0)), (1, vi x), (2, vi e9)]) (by decide +kernel) hfl (Nat.le_of_ble_eq_true rfl) rfl rfl ?_
  intro p e s m args below meth c A C hex hnm
  generalize hQ : vx_MQ below (Qo D (fun v ws2 => v = some (vi (ct (dueR h (q x.toNat)) 0 e9)) ∧ ws2 = ml cy ad M) A) (Xo D no_x A) args s 0 0 A = Q
  replace hQ := hQ.symm
  obtain ⟨hch, ⟨htd, td0, td1⟩, ⟨hmn, hn8⟩, hR, hZ, hQ12⟩ := id hmi
  have cr := ct_rng (dueR h (q x.toNat)) 0 720 (by decide)
  have cm := ct_mono (p := (dueR h (q x.toNat))) b0 b1
  have ce := ct_rng (dueR h (q x.toNat)) 0 e9 b0
  refine V.iconst C dX3_countBefore_0 ?_
  refine V.istore_n C (lc2 := [(3, vi 0), (0, .ref (ad 0)), (1, vi x), (2, vi e9)]) dX3_countBefore_1 (by decide) rfl ?_
  have loop2 : ∀ (fz : Nat) (k9 : Int), (0 ≤ k9) → (k9 ≤ ct (dueR h (q x.toNat)) 0 e9) → ((ct (dueR h (q x.toNat)) 0 720 - k9).toNat < fz) → V D 4 A p l e (rmL 5 0 0) s m args below meth c Q 0 0 (ml cy ad M) 2 [(3, vi k9), (0, .ref (ad 0)), (1, vi x), (2, vi e9)] [] := by
    intro fz
    induction fz with
    | zero => intro k9 e0 e1 hf; exact absurd hf (Nat.not_lt_zero _)
    | succ fz ih2 =>
      intro k9 e0 e1 hf2
      refine V.iload_n C dX3_countBefore_2 0 rfl ?_
      refine V.aload_n C dX3_countBefore_3 1 rfl ?_
      refine V.getf C (v := .ref (ad 15)) 0 rfl rfl inX3 15 (by decide) fl_X3_47 (fun _ h => h) rfl dX3_countBefore_4 ?_
      refine V.iload_n C dX3_countBefore_7 2 rfl ?_
      refine V.iald C (v := ct (dueR h (q x.toNat)) 0 720) 13 rfl (by omega) (by omega) (by decide) (ld_ar (by omega) ((hmk x g0 g1).2.1)) dX3_countBefore_8 ?_
      refine V.icmp_ge C 34 dX3_countBefore_9 (by decide) ⟨by omega, by omega⟩ ⟨by omega, by omega⟩ (fun h9 => ?_) (fun h9 => ?_)
      · skip
        refine V.iload_n C dX3_countBefore_34 0 rfl ?_
        rw [hQ]
        exact V.iret C dX3_countBefore_35 (by decide) (by decide) (⟨ri (by omega), rfl⟩)
      · skip
        refine V.aload_n C dX3_countBefore_12 1 rfl ?_
        refine V.getf C (v := .ref (ad 14)) 0 rfl rfl inX3 14 (by decide) fl_X3_44 (fun _ h => h) rfl dX3_countBefore_13 ?_
        refine V.sipush C dX3_countBefore_16 (by decide) ?_
        refine V.iload_n C dX3_countBefore_19 2 rfl ?_
        refine V.imul C dX3_countBefore_20 ?_
        refine V.iload_n C dX3_countBefore_21 0 rfl ?_
        refine V.iadd C dX3_countBefore_22 ?_
        refine V.iald C (v := dk (dueR h (q x.toNat)) 0 k9) 12 rfl (by omega) (by omega) (by decide) (ld_ar (by omega) ((hmk x g0 g1).2.2 k9 e0 (by omega))) dX3_countBefore_23 ?_
        have dr := dk_yes (p := (dueR h (q x.toNat))) e0 (by omega)
        refine V.iload_n C dX3_countBefore_24 3 rfl ?_
        refine V.icmp_ge C 34 dX3_countBefore_25 (by decide) ⟨by omega, by omega⟩ ⟨by omega, by omega⟩ (fun h25 => ?_) (fun h25 => ?_)
        · skip
          refine V.iload_n C dX3_countBefore_34 0 rfl ?_
          rw [hQ]
          exact V.iret C dX3_countBefore_35 (by decide) (by decide) (⟨ri (by have z8 : ¬ k9 < ct (dueR h (q x.toNat)) 0 e9 := fun z9 => Int.not_lt.mpr h25 ((dk_bef (p := (dueR h (q x.toNat))) e0 (by omega) b0 b1).mpr z9); omega), rfl⟩)
        · skip
          refine V.iinc C (lc2 := [(3, vi (k9 + 1)), (0, .ref (ad 0)), (1, vi x), (2, vi e9)]) dX3_countBefore_28 0 rfl (by decide) rfl ?_
          refine V.goto C 2 dX3_countBefore_31 (by decide) ?_
          exact ih2 (k9 + 1) (by omega) (by have := (dk_bef e0 (by omega) b0 b1).mp (Int.not_le.mp h25); omega) (by omega)
  exact loop2 _ 0 (by omega) (by omega) (Nat.lt_succ_self _)
set_option maxHeartbeats 4000000 in
set_option maxRecDepth 100000 in
theorem c_m_loadOf (l : Launch) (D : va_G) (cy : Nat → ClassId) (sa : Nat → Addr) (hfl : l.stackTraces = false) (ad : Nat → Nat) (M : Nat → Int → Int) (h : Int → Bool) (td : Int) (n : Nat) (q : Nat → Nat → Int) (rq : Nat → Nat) (hmi : MI h td n q rq M) (hmk : MK h n q M) (d : Int) (d0 : 0 ≤ d) (d1 : d < 720) : Ct l D cy sa yX3_loadOf cX3_loadOf 4 (some .int) 5 0 0 (ml cy ad M) [.ref (ad 0), vi d] (fun v ws2 => v = some (vi (efs h q n d)) ∧ ws2 = ml cy ad M) no_x := by
  refine Ct.of (own := RX3) (lc := [(0, .ref (ad 0)), (1, vi d)]) (by decide +kernel) hfl (Nat.le_of_ble_eq_true rfl) rfl rfl ?_
  intro p e s m args below meth c A C hex hnm
  generalize hQ : vx_MQ below (Qo D (fun v ws2 => v = some (vi (efs h q n d)) ∧ ws2 = ml cy ad M) A) (Xo D no_x A) args s 0 0 A = Q
  replace hQ := hQ.symm
  obtain ⟨hch, ⟨htd, td0, td1⟩, ⟨hmn, hn8⟩, hR, hZ, hQ12⟩ := id hmi
  refine V.iconst C dX3_loadOf_0 ?_
  refine V.istore_n C (lc2 := [(2, vi 0), (0, .ref (ad 0)), (1, vi d)]) dX3_loadOf_1 (by decide) rfl ?_
  refine V.iconst C dX3_loadOf_2 ?_
  refine V.istore_n C (lc2 := [(3, vi 0), (2, vi 0), (0, .ref (ad 0)), (1, vi d)]) dX3_loadOf_3 (by decide) rfl ?_
  have loop4 : ∀ (fz : Nat) (i : Int) (b : Int), (0 ≤ i) → (i ≤ (n : Int)) → (b = sumN (ef h q d) i.toNat) → (((n : Int) - i).toNat < fz) → V D 4 A p l e (rmL 5 0 0) s m args below meth c Q 0 0 (ml cy ad M) 4 [(3, vi i), (2, vi b), (0, .ref (ad 0)), (1, vi d)] [] := by
    intro fz
    induction fz with
    | zero => intro i b e0 e1 e2 hf; exact absurd hf (Nat.not_lt_zero _)
    | succ fz ih4 =>
      intro i b e0 e1 e2 hf4
      refine V.iload_n C dX3_loadOf_4 0 rfl ?_
      refine V.aload_n C dX3_loadOf_5 2 rfl ?_
      refine V.getf C (v := vi (n : Int)) 0 rfl rfl inX3 3 (by decide) fl_X3_64 (fun _ h => h) (by show some _ = some _; rw [hmi.2.2.1.1]) dX3_loadOf_6 ?_
      refine V.icmp_ge C 46 dX3_loadOf_9 (by decide) ⟨by omega, by omega⟩ ⟨by omega, by omega⟩ (fun h9 => ?_) (fun h9 => ?_)
      · skip
        refine V.iload_n C dX3_loadOf_46 1 rfl ?_
        rw [hQ]
        exact V.iret C dX3_loadOf_47 (by decide) (by decide) (⟨ri (by rw [e2, show i.toNat = n by omega]; rfl), rfl⟩)
      · skip
        refine V.iload_n C dX3_loadOf_12 1 rfl ?_
        refine V.aload_n C dX3_loadOf_13 2 rfl ?_
        refine V.getf C (v := .ref (ad 13)) 0 rfl rfl inX3 13 (by decide) fl_X3_41 (fun _ h => h) rfl dX3_loadOf_14 ?_
        refine V.sipush C dX3_loadOf_17 (by decide) ?_
        refine V.iload_n C dX3_loadOf_20 0 rfl ?_
        refine V.imul C dX3_loadOf_21 ?_
        refine V.iload_n C dX3_loadOf_22 3 rfl ?_
        refine V.iadd C dX3_loadOf_23 ?_
        refine V.zald C (v := bI (dueR h (q i.toNat) d)) 11 rfl (by omega) (by omega) (by decide) (ld_ar (by omega) ((hmk i e0 (by omega)).1 d d0 d1)) dX3_loadOf_24 ?_
        refine V.if_eqB C 37 dX3_loadOf_25 (by decide) (fun h25 => ?_) (fun h25 => ?_)
        · skip
          refine V.iconst C dX3_loadOf_37 ?_
          refine V.iadd C dX3_loadOf_38 ?_
          refine V.istore_n C (lc2 := [(2, vi (b + 0)), (3, vi i), (0, .ref (ad 0)), (1, vi d)]) dX3_loadOf_39 (by decide) rfl ?_
          refine V.iinc C (lc2 := [(3, vi (i + 1)), (2, vi (b + 0)), (0, .ref (ad 0)), (1, vi d)]) dX3_loadOf_40 1 rfl (by decide) rfl ?_
          refine V.goto C 4 dX3_loadOf_43 (by decide) ?_
          exact ih4 (i + 1) (b + 0) (by omega) (by omega) (by rw [e2, show (i + 1).toNat = i.toNat + 1 by omega]; simp only [sumN, ef]; rw [h25]; simp) (by omega)
        · skip
          refine V.aload_n C dX3_loadOf_28 2 rfl ?_
          refine V.getf C (v := .ref (ad 8)) 0 rfl rfl inX3 8 (by decide) fl_X3_26 (fun _ h => h) rfl dX3_loadOf_29 ?_
          refine V.iload_n C dX3_loadOf_32 0 rfl ?_
          refine V.iald C (v := q (i).toNat 3) 6 rfl (by omega) (by omega) (by decide) (ld_ar (by omega) ((hR _ (e0) (by omega)).1.2.2.2.2.1)) dX3_loadOf_33 ?_
          refine V.goto C 38 dX3_loadOf_34 (by decide) ?_
          refine V.iadd C dX3_loadOf_38 ?_
          refine V.istore_n C (lc2 := [(2, vi (b + (q (i).toNat 3))), (3, vi i), (0, .ref (ad 0)), (1, vi d)]) dX3_loadOf_39 (by decide) rfl ?_
          refine V.iinc C (lc2 := [(3, vi (i + 1)), (2, vi (b + (q (i).toNat 3))), (0, .ref (ad 0)), (1, vi d)]) dX3_loadOf_40 1 rfl (by decide) rfl ?_
          refine V.goto C 4 dX3_loadOf_43 (by decide) ?_
          exact ih4 (i + 1) (b + (q (i).toNat 3)) (by omega) (by omega) (by rw [e2, show (i + 1).toNat = i.toNat + 1 by omega]; simp only [sumN, ef]; rw [h25]; simp) (by omega)
  exact loop4 _ 0 0 (by omega) (by omega) rfl (Nat.lt_succ_self _)
set_option maxHeartbeats 4000000 in
set_option maxRecDepth 100000 in
theorem c_m_dueDay (l : Launch) (D : va_G) (cy : Nat → ClassId) (sa : Nat → Addr) (hfl : l.stackTraces = false) (ad : Nat → Nat) (M : Nat → Int → Int) (h : Int → Bool) (td : Int) (n : Nat) (q : Nat → Nat → Int) (rq : Nat → Nat) (hmi : MI h td n q rq M) (x : Int) (hx : inR x) (z : Int) (hz : inR z) : Ct l D cy sa yX3_dueDay cX3_dueDay 3 (some .int) 8 0 0 (ml cy ad M) [.ref (ad 0), vi x, vi z] (fun v ws2 => ∃ y, v = some (vi y) ∧ ((kRP n x z) = 0 → y = dk (dueR h (q x.toNat)) 0 z) ∧ ∃ M2, ws2 = ml cy ad M2 ∧ M2 0 0 = (kRP n x z) ∧ MI h td n q rq M2) no_x := by
  refine Ct.of (own := RX3) (lc := [(0, .ref (ad 0)), (1, vi x), (2, vi z)]) (by decide +kernel) hfl (Nat.le_of_ble_eq_true rfl) rfl rfl ?_
  intro p e s m args below meth c A C hex hnm
  generalize hQ : vx_MQ below (Qo D (fun v ws2 => ∃ y, v = some (vi y) ∧ ((kRP n x z) = 0 → y = dk (dueR h (q x.toNat)) 0 z) ∧ ∃ M2, ws2 = ml cy ad M2 ∧ M2 0 0 = (kRP n x z) ∧ MI h td n q rq M2) A) (Xo D no_x A) args s 0 0 A = Q
  replace hQ := hQ.symm
  obtain ⟨hch, ⟨htd, td0, td1⟩, ⟨hmn, hn8⟩, hR, hZ, hQ12⟩ := id hmi
  obtain ⟨hxl, hxr⟩ := hx
  obtain ⟨hzl, hzr⟩ := hz
  refine V.aload_n C dX3_dueDay_0 0 rfl ?_
  refine V.aload_n C dX3_dueDay_1 0 rfl ?_
  refine V.iload_n C dX3_dueDay_2 1 rfl ?_
  refine V.callV C (As := [vi x]) (st := [.ref (ad 0)]) (wr := []) kV_X3_84 (c_m_isRule l D cy sa hfl ad M n hmi.2.2.1.1 hn8 x ⟨by omega, by omega⟩) rfl 0 rfl rfl rfl rfl (Nat.le_of_ble_eq_true rfl) ⟨by decide, by decide⟩ ⟨by decide, by decide⟩ dX3_dueDay_3 (fun _ _ h => h.elim) (fun v1 w2 r3 => ?_)
  obtain ⟨rfl, hw2⟩ := r3
  rw [hw2]
  show V D 3 A p l e (rmL 8 0 0) s m args below meth c Q 0 0 (ml cy ad M) 6 [(0, .ref (ad 0)), (1, vi x), (2, vi z)] [vi (bI (isR n x)), .ref (ad 0)]
  refine V.if_eqB C 17 dX3_dueDay_6 (by decide) (fun h6 => ?_) (fun h6 => ?_)
  · skip
    refine V.iconst C dX3_dueDay_17 ?_
    refine V.putf C (v := vi 1) (ty := .int) 0 rfl rfl inX3 tyX3 tyX3_ok nmX3 0 (by decide) fl_X3_56 (fun _ h => h) rfl (by decide +kernel) rfl rfl (Nat.le_of_ble_eq_true rfl) dX3_dueDay_18 mput_0_0 ?_
    refine V.aload_n C dX3_dueDay_21 0 rfl ?_
    refine V.callV C (As := []) (st := []) (wr := []) kV_X3_97 (c_m_marks l D cy sa hfl ad (upM M 0 0 1) h td n q rq (hmi.t)) rfl 0 rfl rfl rfl rfl (Nat.le_of_ble_eq_true rfl) ⟨by decide, by decide⟩ ⟨by decide, by decide⟩ dX3_dueDay_22 (fun _ _ h => h.elim) (fun v4 w5 r6 => ?_)
    obtain ⟨rfl, M1, hw5, fr1, mk1⟩ := r6
    rw [hw5]
    have hmi1 : MI h td n q rq M1 := (hmi.t).same (fun k k2 k12 => fr1 k (by omega) (by omega) (by omega)) (by rw [fr1 0 (by decide) (by decide) (by decide)]) (by rw [fr1 0 (by decide) (by decide) (by decide)])
    have hR1 := hmi1.2.2.2.1
    have ht1 : M1 0 0 = 1 := by rw [fr1 0 (by decide) (by decide) (by decide)]; exact upM_s _ _ _ _
    show V D 3 A p l e (rmL 8 0 0) s m args below meth c Q 0 0 (ml cy ad M1) 25 [(0, .ref (ad 0)), (1, vi x), (2, vi z)] []
    refine V.aload_n C dX3_dueDay_25 0 rfl ?_
    refine V.getf C (v := vi 1) 0 rfl rfl inX3 0 (by decide) fl_X3_56 (fun _ h => h) (by show some _ = some _; rw [ht1]) dX3_dueDay_26 ?_
    refine V.if_le C 36 dX3_dueDay_29 (by decide) ⟨by decide, by decide⟩ (fun h29 => (by exact absurd h29 (by decide))) (fun h29 => ?_)
    refine V.iconst C dX3_dueDay_32 ?_
    refine V.goto C 42 dX3_dueDay_33 (by decide) ?_
    rw [hQ]
    exact V.iret C dX3_dueDay_42 (by decide) (by decide) (⟨_, rfl, fun e9 => n10 (kRP_f h6) e9, _, rfl, by rw [ht1, kRP_f h6], hmi1⟩)
  · skip
    obtain ⟨gx0, gx1⟩ := isR_iff.mp h6
    refine V.iload_n C dX3_dueDay_9 2 rfl ?_
    refine V.if_lt C 17 dX3_dueDay_10 (by decide) ⟨by omega, by omega⟩ (fun h10 => ?_) (fun h10 => ?_)
    · skip
      refine V.iconst C dX3_dueDay_17 ?_
      refine V.putf C (v := vi 1) (ty := .int) 0 rfl rfl inX3 tyX3 tyX3_ok nmX3 0 (by decide) fl_X3_56 (fun _ h => h) rfl (by decide +kernel) rfl rfl (Nat.le_of_ble_eq_true rfl) dX3_dueDay_18 mput_0_0 ?_
      refine V.aload_n C dX3_dueDay_21 0 rfl ?_
      refine V.callV C (As := []) (st := []) (wr := []) kV_X3_97 (c_m_marks l D cy sa hfl ad (upM M 0 0 1) h td n q rq (hmi.t)) rfl 0 rfl rfl rfl rfl (Nat.le_of_ble_eq_true rfl) ⟨by decide, by decide⟩ ⟨by decide, by decide⟩ dX3_dueDay_22 (fun _ _ h => h.elim) (fun v7 w8 r9 => ?_)
      obtain ⟨rfl, M1, hw8, fr1, mk1⟩ := r9
      rw [hw8]
      have hmi1 : MI h td n q rq M1 := (hmi.t).same (fun k k2 k12 => fr1 k (by omega) (by omega) (by omega)) (by rw [fr1 0 (by decide) (by decide) (by decide)]) (by rw [fr1 0 (by decide) (by decide) (by decide)])
      have hR1 := hmi1.2.2.2.1
      have ht1 : M1 0 0 = 1 := by rw [fr1 0 (by decide) (by decide) (by decide)]; exact upM_s _ _ _ _
      show V D 3 A p l e (rmL 8 0 0) s m args below meth c Q 0 0 (ml cy ad M1) 25 [(0, .ref (ad 0)), (1, vi x), (2, vi z)] []
      refine V.aload_n C dX3_dueDay_25 0 rfl ?_
      refine V.getf C (v := vi 1) 0 rfl rfl inX3 0 (by decide) fl_X3_56 (fun _ h => h) (by show some _ = some _; rw [ht1]) dX3_dueDay_26 ?_
      refine V.if_le C 36 dX3_dueDay_29 (by decide) ⟨by decide, by decide⟩ (fun h29 => (by exact absurd h29 (by decide))) (fun h29 => ?_)
      refine V.iconst C dX3_dueDay_32 ?_
      refine V.goto C 42 dX3_dueDay_33 (by decide) ?_
      rw [hQ]
      exact V.iret C dX3_dueDay_42 (by decide) (by decide) (⟨_, rfl, fun e9 => n10 (kRP_1 (Or.inr h10)) e9, _, rfl, by rw [ht1, kRP_1 (Or.inr h10)], hmi1⟩)
    · skip
      refine V.iconst C dX3_dueDay_13 ?_
      refine V.goto C 18 dX3_dueDay_14 (by decide) ?_
      refine V.putf C (v := vi 0) (ty := .int) 0 rfl rfl inX3 tyX3 tyX3_ok nmX3 0 (by decide) fl_X3_56 (fun _ h => h) rfl (by decide +kernel) rfl rfl (Nat.le_of_ble_eq_true rfl) dX3_dueDay_18 mput_0_0 ?_
      refine V.aload_n C dX3_dueDay_21 0 rfl ?_
      refine V.callV C (As := []) (st := []) (wr := []) kV_X3_97 (c_m_marks l D cy sa hfl ad (upM M 0 0 0) h td n q rq (hmi.t)) rfl 0 rfl rfl rfl rfl (Nat.le_of_ble_eq_true rfl) ⟨by decide, by decide⟩ ⟨by decide, by decide⟩ dX3_dueDay_22 (fun _ _ h => h.elim) (fun v10 w11 r12 => ?_)
      obtain ⟨rfl, M1, hw11, fr1, mk1⟩ := r12
      rw [hw11]
      have hmi1 : MI h td n q rq M1 := (hmi.t).same (fun k k2 k12 => fr1 k (by omega) (by omega) (by omega)) (by rw [fr1 0 (by decide) (by decide) (by decide)]) (by rw [fr1 0 (by decide) (by decide) (by decide)])
      have hR1 := hmi1.2.2.2.1
      have ht1 : M1 0 0 = 0 := by rw [fr1 0 (by decide) (by decide) (by decide)]; exact upM_s _ _ _ _
      show V D 3 A p l e (rmL 8 0 0) s m args below meth c Q 0 0 (ml cy ad M1) 25 [(0, .ref (ad 0)), (1, vi x), (2, vi z)] []
      refine V.aload_n C dX3_dueDay_25 0 rfl ?_
      refine V.getf C (v := vi 0) 0 rfl rfl inX3 0 (by decide) fl_X3_56 (fun _ h => h) (by show some _ = some _; rw [ht1]) dX3_dueDay_26 ?_
      refine V.if_le C 36 dX3_dueDay_29 (by decide) ⟨by decide, by decide⟩ (fun h29 => ?_) (fun h29 => (by exact absurd h29 (by decide)))
      refine V.aload_n C dX3_dueDay_36 0 rfl ?_
      refine V.iload_n C dX3_dueDay_37 1 rfl ?_
      refine V.iload_n C dX3_dueDay_38 2 rfl ?_
      refine V.callV C (As := [vi x, vi z]) (st := []) (wr := []) kV_X3_100 (c_m_dueAt l D cy sa hfl ad M1 h td n q rq (hmi1) (mk1) x (by omega) (by omega) z (by omega) ⟨by omega, by omega⟩) rfl 0 rfl rfl rfl rfl (Nat.le_of_ble_eq_true rfl) ⟨by decide, by decide⟩ ⟨by decide, by decide⟩ dX3_dueDay_39 (fun _ _ h => h.elim) (fun v13 w14 r15 => ?_)
      obtain ⟨rfl, hw14⟩ := r15
      rw [hw14]
      show V D 3 A p l e (rmL 8 0 0) s m args below meth c Q 0 0 (ml cy ad M1) 42 [(0, .ref (ad 0)), (1, vi x), (2, vi z)] [vi (dk (dueR h (q (x).toNat)) 0 z)]
      rw [hQ]
      exact V.iret C dX3_dueDay_42 (by decide) (by decide) (⟨_, rfl, fun _ => rfl, _, rfl, by rw [ht1, kRP_t h6 (by omega)], hmi1⟩)
set_option maxHeartbeats 4000000 in
set_option maxRecDepth 100000 in
theorem c_m_duties (l : Launch) (D : va_G) (cy : Nat → ClassId) (sa : Nat → Addr) (hfl : l.stackTraces = false) (ad : Nat → Nat) (M : Nat → Int → Int) (h : Int → Bool) (td : Int) (n : Nat) (q : Nat → Nat → Int) (rq : Nat → Nat) (hmi : MI h td n q rq M) (x : Int) (hx : inR x) : Ct l D cy sa yX3_duties cX3_duties 2 (some .int) 8 0 0 (ml cy ad M) [.ref (ad 0), vi x] (fun v ws2 => ∃ y, v = some (vi y) ∧ ((kRule n x) = 0 → y = ct (dueR h (q x.toNat)) 0 720) ∧ ∃ M2, ws2 = ml cy ad M2 ∧ M2 0 0 = (kRule n x) ∧ MI h td n q rq M2) no_x := by
  refine Ct.of (own := RX3) (lc := [(0, .ref (ad 0)), (1, vi x)]) (by decide +kernel) hfl (Nat.le_of_ble_eq_true rfl) rfl rfl ?_
  intro p e s m args below meth c A C hex hnm
  generalize hQ : vx_MQ below (Qo D (fun v ws2 => ∃ y, v = some (vi y) ∧ ((kRule n x) = 0 → y = ct (dueR h (q x.toNat)) 0 720) ∧ ∃ M2, ws2 = ml cy ad M2 ∧ M2 0 0 = (kRule n x) ∧ MI h td n q rq M2) A) (Xo D no_x A) args s 0 0 A = Q
  replace hQ := hQ.symm
  obtain ⟨hch, ⟨htd, td0, td1⟩, ⟨hmn, hn8⟩, hR, hZ, hQ12⟩ := id hmi
  obtain ⟨hxl, hxr⟩ := hx
  refine V.aload_n C dX3_duties_0 0 rfl ?_
  refine V.aload_n C dX3_duties_1 0 rfl ?_
  refine V.iload_n C dX3_duties_2 1 rfl ?_
  refine V.callV C (As := [vi x]) (st := [.ref (ad 0)]) (wr := []) kV_X3_84 (c_m_isRule l D cy sa hfl ad M n hmi.2.2.1.1 hn8 x ⟨by omega, by omega⟩) rfl 0 rfl rfl rfl rfl (Nat.le_of_ble_eq_true rfl) ⟨by decide, by decide⟩ ⟨by decide, by decide⟩ dX3_duties_3 (fun _ _ h => h.elim) (fun v1 w2 r3 => ?_)
  obtain ⟨rfl, hw2⟩ := r3
  rw [hw2]
  show V D 2 A p l e (rmL 8 0 0) s m args below meth c Q 0 0 (ml cy ad M) 6 [(0, .ref (ad 0)), (1, vi x)] [vi (bI (isR n x)), .ref (ad 0)]
  refine V.if_eqB C 13 dX3_duties_6 (by decide) (fun h6 => ?_) (fun h6 => ?_)
  · skip
    refine V.iconst C dX3_duties_13 ?_
    refine V.putf C (v := vi 1) (ty := .int) 0 rfl rfl inX3 tyX3 tyX3_ok nmX3 0 (by decide) fl_X3_56 (fun _ h => h) rfl (by decide +kernel) rfl rfl (Nat.le_of_ble_eq_true rfl) dX3_duties_14 mput_0_0 ?_
    refine V.aload_n C dX3_duties_17 0 rfl ?_
    refine V.callV C (As := []) (st := []) (wr := []) kV_X3_97 (c_m_marks l D cy sa hfl ad (upM M 0 0 1) h td n q rq (hmi.t)) rfl 0 rfl rfl rfl rfl (Nat.le_of_ble_eq_true rfl) ⟨by decide, by decide⟩ ⟨by decide, by decide⟩ dX3_duties_18 (fun _ _ h => h.elim) (fun v4 w5 r6 => ?_)
    obtain ⟨rfl, M1, hw5, fr1, mk1⟩ := r6
    rw [hw5]
    have hmi1 : MI h td n q rq M1 := (hmi.t).same (fun k k2 k12 => fr1 k (by omega) (by omega) (by omega)) (by rw [fr1 0 (by decide) (by decide) (by decide)]) (by rw [fr1 0 (by decide) (by decide) (by decide)])
    have hR1 := hmi1.2.2.2.1
    have ht1 : M1 0 0 = 1 := by rw [fr1 0 (by decide) (by decide) (by decide)]; exact upM_s _ _ _ _
    show V D 2 A p l e (rmL 8 0 0) s m args below meth c Q 0 0 (ml cy ad M1) 21 [(0, .ref (ad 0)), (1, vi x)] []
    refine V.aload_n C dX3_duties_21 0 rfl ?_
    refine V.getf C (v := vi 1) 0 rfl rfl inX3 0 (by decide) fl_X3_56 (fun _ h => h) (by show some _ = some _; rw [ht1]) dX3_duties_22 ?_
    refine V.if_le C 32 dX3_duties_25 (by decide) ⟨by decide, by decide⟩ (fun h25 => (by exact absurd h25 (by decide))) (fun h25 => ?_)
    refine V.iconst C dX3_duties_28 ?_
    refine V.goto C 40 dX3_duties_29 (by decide) ?_
    rw [hQ]
    exact V.iret C dX3_duties_40 (by decide) (by decide) (⟨_, rfl, fun e9 => n10 (kRule_f h6) e9, _, rfl, by rw [ht1, kRule_f h6], hmi1⟩)
  · skip
    obtain ⟨gx0, gx1⟩ := isR_iff.mp h6
    refine V.iconst C dX3_duties_9 ?_
    refine V.goto C 14 dX3_duties_10 (by decide) ?_
    refine V.putf C (v := vi 0) (ty := .int) 0 rfl rfl inX3 tyX3 tyX3_ok nmX3 0 (by decide) fl_X3_56 (fun _ h => h) rfl (by decide +kernel) rfl rfl (Nat.le_of_ble_eq_true rfl) dX3_duties_14 mput_0_0 ?_
    refine V.aload_n C dX3_duties_17 0 rfl ?_
    refine V.callV C (As := []) (st := []) (wr := []) kV_X3_97 (c_m_marks l D cy sa hfl ad (upM M 0 0 0) h td n q rq (hmi.t)) rfl 0 rfl rfl rfl rfl (Nat.le_of_ble_eq_true rfl) ⟨by decide, by decide⟩ ⟨by decide, by decide⟩ dX3_duties_18 (fun _ _ h => h.elim) (fun v7 w8 r9 => ?_)
    obtain ⟨rfl, M1, hw8, fr1, mk1⟩ := r9
    rw [hw8]
    have hmi1 : MI h td n q rq M1 := (hmi.t).same (fun k k2 k12 => fr1 k (by omega) (by omega) (by omega)) (by rw [fr1 0 (by decide) (by decide) (by decide)]) (by rw [fr1 0 (by decide) (by decide) (by decide)])
    have hR1 := hmi1.2.2.2.1
    have ht1 : M1 0 0 = 0 := by rw [fr1 0 (by decide) (by decide) (by decide)]; exact upM_s _ _ _ _
    show V D 2 A p l e (rmL 8 0 0) s m args below meth c Q 0 0 (ml cy ad M1) 21 [(0, .ref (ad 0)), (1, vi x)] []
    refine V.aload_n C dX3_duties_21 0 rfl ?_
    refine V.getf C (v := vi 0) 0 rfl rfl inX3 0 (by decide) fl_X3_56 (fun _ h => h) (by show some _ = some _; rw [ht1]) dX3_duties_22 ?_
    refine V.if_le C 32 dX3_duties_25 (by decide) ⟨by decide, by decide⟩ (fun h25 => ?_) (fun h25 => (by exact absurd h25 (by decide)))
    refine V.aload_n C dX3_duties_32 0 rfl ?_
    refine V.iload_n C dX3_duties_33 1 rfl ?_
    refine V.sipush C dX3_duties_34 (by decide) ?_
    refine V.callV C (As := [vi x, vi 720]) (st := []) (wr := []) kV_X3_103 (c_m_countBefore l D cy sa hfl ad M1 h td n q rq (hmi1) (mk1) x (by omega) (by omega) 720 (by decide) (by decide)) rfl 0 rfl rfl rfl rfl (Nat.le_of_ble_eq_true rfl) ⟨by decide, by decide⟩ ⟨by decide, by decide⟩ dX3_duties_37 (fun _ _ h => h.elim) (fun v10 w11 r12 => ?_)
    obtain ⟨rfl, hw11⟩ := r12
    rw [hw11]
    show V D 2 A p l e (rmL 8 0 0) s m args below meth c Q 0 0 (ml cy ad M1) 40 [(0, .ref (ad 0)), (1, vi x)] [vi (ct (dueR h (q (x).toNat)) 0 720)]
    rw [hQ]
    exact V.iret C dX3_duties_40 (by decide) (by decide) (⟨_, rfl, fun _ => rfl, _, rfl, by rw [ht1, kRule_t h6], hmi1⟩)
set_option maxHeartbeats 4000000 in
set_option maxRecDepth 100000 in
theorem c_m_firstFrom (l : Launch) (D : va_G) (cy : Nat → ClassId) (sa : Nat → Addr) (hfl : l.stackTraces = false) (ad : Nat → Nat) (M : Nat → Int → Int) (h : Int → Bool) (td : Int) (n : Nat) (q : Nat → Nat → Int) (rq : Nat → Nat) (hmi : MI h td n q rq M) (x : Int) (hx : inR x) (z : Int) (hz : inR z) : Ct l D cy sa yX3_firstFrom cX3_firstFrom 3 (some .int) 8 0 0 (ml cy ad M) [.ref (ad 0), vi x, vi z] (fun v ws2 => ∃ y, v = some (vi y) ∧ ((kRD n x z) = 0 → y = fst (dueR h (q x.toNat)) z) ∧ ∃ M2, ws2 = ml cy ad M2 ∧ M2 0 0 = (kRD n x z) ∧ MI h td n q rq M2) no_x := by
  refine Ct.of (own := RX3) (lc := [(0, .ref (ad 0)), (1, vi x), (2, vi z)]) (by decide +kernel) hfl (Nat.le_of_ble_eq_true rfl) rfl rfl ?_
  intro p e s m args below meth c A C hex hnm
  generalize hQ : vx_MQ below (Qo D (fun v ws2 => ∃ y, v = some (vi y) ∧ ((kRD n x z) = 0 → y = fst (dueR h (q x.toNat)) z) ∧ ∃ M2, ws2 = ml cy ad M2 ∧ M2 0 0 = (kRD n x z) ∧ MI h td n q rq M2) A) (Xo D no_x A) args s 0 0 A = Q
  replace hQ := hQ.symm
  obtain ⟨hch, ⟨htd, td0, td1⟩, ⟨hmn, hn8⟩, hR, hZ, hQ12⟩ := id hmi
  obtain ⟨hxl, hxr⟩ := hx
  obtain ⟨hzl, hzr⟩ := hz
  refine V.aload_n C dX3_firstFrom_0 0 rfl ?_
  refine V.aload_n C dX3_firstFrom_1 0 rfl ?_
  refine V.iload_n C dX3_firstFrom_2 1 rfl ?_
  refine V.callV C (As := [vi x]) (st := [.ref (ad 0)]) (wr := []) kV_X3_84 (c_m_isRule l D cy sa hfl ad M n hmi.2.2.1.1 hn8 x ⟨by omega, by omega⟩) rfl 0 rfl rfl rfl rfl (Nat.le_of_ble_eq_true rfl) ⟨by decide, by decide⟩ ⟨by decide, by decide⟩ dX3_firstFrom_3 (fun _ _ h => h.elim) (fun v1 w2 r3 => ?_)
  obtain ⟨rfl, hw2⟩ := r3
  rw [hw2]
  show V D 3 A p l e (rmL 8 0 0) s m args below meth c Q 0 0 (ml cy ad M) 6 [(0, .ref (ad 0)), (1, vi x), (2, vi z)] [vi (bI (isR n x)), .ref (ad 0)]
  refine V.if_eqB C 20 dX3_firstFrom_6 (by decide) (fun h6 => ?_) (fun h6 => ?_)
  · skip
    refine V.iconst C dX3_firstFrom_20 ?_
    refine V.putf C (v := vi 1) (ty := .int) 0 rfl rfl inX3 tyX3 tyX3_ok nmX3 0 (by decide) fl_X3_56 (fun _ h => h) rfl (by decide +kernel) rfl rfl (Nat.le_of_ble_eq_true rfl) dX3_firstFrom_21 mput_0_0 ?_
    refine V.aload_n C dX3_firstFrom_24 0 rfl ?_
    refine V.callV C (As := []) (st := []) (wr := []) kV_X3_97 (c_m_marks l D cy sa hfl ad (upM M 0 0 1) h td n q rq (hmi.t)) rfl 0 rfl rfl rfl rfl (Nat.le_of_ble_eq_true rfl) ⟨by decide, by decide⟩ ⟨by decide, by decide⟩ dX3_firstFrom_25 (fun _ _ h => h.elim) (fun v4 w5 r6 => ?_)
    obtain ⟨rfl, M1, hw5, fr1, mk1⟩ := r6
    rw [hw5]
    have hmi1 : MI h td n q rq M1 := (hmi.t).same (fun k k2 k12 => fr1 k (by omega) (by omega) (by omega)) (by rw [fr1 0 (by decide) (by decide) (by decide)]) (by rw [fr1 0 (by decide) (by decide) (by decide)])
    have hR1 := hmi1.2.2.2.1
    have ht1 : M1 0 0 = 1 := by rw [fr1 0 (by decide) (by decide) (by decide)]; exact upM_s _ _ _ _
    show V D 3 A p l e (rmL 8 0 0) s m args below meth c Q 0 0 (ml cy ad M1) 28 [(0, .ref (ad 0)), (1, vi x), (2, vi z)] []
    refine V.aload_n C dX3_firstFrom_28 0 rfl ?_
    refine V.getf C (v := vi 1) 0 rfl rfl inX3 0 (by decide) fl_X3_56 (fun _ h => h) (by show some _ = some _; rw [ht1]) dX3_firstFrom_29 ?_
    refine V.if_le C 39 dX3_firstFrom_32 (by decide) ⟨by decide, by decide⟩ (fun h32 => (by exact absurd h32 (by decide))) (fun h32 => ?_)
    refine V.iconst C dX3_firstFrom_35 ?_
    refine V.goto C 50 dX3_firstFrom_36 (by decide) ?_
    rw [hQ]
    exact V.iret C dX3_firstFrom_50 (by decide) (by decide) (⟨_, rfl, fun e9 => n10 (kRD_f h6) e9, _, rfl, by rw [ht1, kRD_f h6], hmi1⟩)
  · skip
    obtain ⟨gx0, gx1⟩ := isR_iff.mp h6
    refine V.iload_n C dX3_firstFrom_9 2 rfl ?_
    refine V.callS C (As := [vi z]) (st := [.ref (ad 0)]) (wr := []) kS_X3_67 (c_m_isDay l D cy sa hfl _ z ⟨by omega, by omega⟩) rfl rfl rfl (Nat.le_of_ble_eq_true rfl) ⟨by decide, by decide⟩ ⟨by decide, by decide⟩ dX3_firstFrom_10 (fun _ _ h => h.elim) (fun v7 w8 r9 => ?_)
    obtain ⟨rfl, hw8⟩ := r9
    rw [hw8]
    show V D 3 A p l e (rmL 8 0 0) s m args below meth c Q 0 0 (ml cy ad M) 13 [(0, .ref (ad 0)), (1, vi x), (2, vi z)] [vi (bI (isDy z)), .ref (ad 0)]
    refine V.if_eqB C 20 dX3_firstFrom_13 (by decide) (fun h13 => ?_) (fun h13 => ?_)
    · skip
      refine V.iconst C dX3_firstFrom_20 ?_
      refine V.putf C (v := vi 1) (ty := .int) 0 rfl rfl inX3 tyX3 tyX3_ok nmX3 0 (by decide) fl_X3_56 (fun _ h => h) rfl (by decide +kernel) rfl rfl (Nat.le_of_ble_eq_true rfl) dX3_firstFrom_21 mput_0_0 ?_
      refine V.aload_n C dX3_firstFrom_24 0 rfl ?_
      refine V.callV C (As := []) (st := []) (wr := []) kV_X3_97 (c_m_marks l D cy sa hfl ad (upM M 0 0 1) h td n q rq (hmi.t)) rfl 0 rfl rfl rfl rfl (Nat.le_of_ble_eq_true rfl) ⟨by decide, by decide⟩ ⟨by decide, by decide⟩ dX3_firstFrom_25 (fun _ _ h => h.elim) (fun v10 w11 r12 => ?_)
      obtain ⟨rfl, M1, hw11, fr1, mk1⟩ := r12
      rw [hw11]
      have hmi1 : MI h td n q rq M1 := (hmi.t).same (fun k k2 k12 => fr1 k (by omega) (by omega) (by omega)) (by rw [fr1 0 (by decide) (by decide) (by decide)]) (by rw [fr1 0 (by decide) (by decide) (by decide)])
      have hR1 := hmi1.2.2.2.1
      have ht1 : M1 0 0 = 1 := by rw [fr1 0 (by decide) (by decide) (by decide)]; exact upM_s _ _ _ _
      show V D 3 A p l e (rmL 8 0 0) s m args below meth c Q 0 0 (ml cy ad M1) 28 [(0, .ref (ad 0)), (1, vi x), (2, vi z)] []
      refine V.aload_n C dX3_firstFrom_28 0 rfl ?_
      refine V.getf C (v := vi 1) 0 rfl rfl inX3 0 (by decide) fl_X3_56 (fun _ h => h) (by show some _ = some _; rw [ht1]) dX3_firstFrom_29 ?_
      refine V.if_le C 39 dX3_firstFrom_32 (by decide) ⟨by decide, by decide⟩ (fun h32 => (by exact absurd h32 (by decide))) (fun h32 => ?_)
      refine V.iconst C dX3_firstFrom_35 ?_
      refine V.goto C 50 dX3_firstFrom_36 (by decide) ?_
      rw [hQ]
      exact V.iret C dX3_firstFrom_50 (by decide) (by decide) (⟨_, rfl, fun e9 => n10 (kRD_1b h13) e9, _, rfl, by rw [ht1, kRD_1b h13], hmi1⟩)
    · skip
      have gz := isDy_iff.mp h13
      obtain ⟨gz0, gz1⟩ := gz
      refine V.iconst C dX3_firstFrom_16 ?_
      refine V.goto C 21 dX3_firstFrom_17 (by decide) ?_
      refine V.putf C (v := vi 0) (ty := .int) 0 rfl rfl inX3 tyX3 tyX3_ok nmX3 0 (by decide) fl_X3_56 (fun _ h => h) rfl (by decide +kernel) rfl rfl (Nat.le_of_ble_eq_true rfl) dX3_firstFrom_21 mput_0_0 ?_
      refine V.aload_n C dX3_firstFrom_24 0 rfl ?_
      refine V.callV C (As := []) (st := []) (wr := []) kV_X3_97 (c_m_marks l D cy sa hfl ad (upM M 0 0 0) h td n q rq (hmi.t)) rfl 0 rfl rfl rfl rfl (Nat.le_of_ble_eq_true rfl) ⟨by decide, by decide⟩ ⟨by decide, by decide⟩ dX3_firstFrom_25 (fun _ _ h => h.elim) (fun v13 w14 r15 => ?_)
      obtain ⟨rfl, M1, hw14, fr1, mk1⟩ := r15
      rw [hw14]
      have hmi1 : MI h td n q rq M1 := (hmi.t).same (fun k k2 k12 => fr1 k (by omega) (by omega) (by omega)) (by rw [fr1 0 (by decide) (by decide) (by decide)]) (by rw [fr1 0 (by decide) (by decide) (by decide)])
      have hR1 := hmi1.2.2.2.1
      have ht1 : M1 0 0 = 0 := by rw [fr1 0 (by decide) (by decide) (by decide)]; exact upM_s _ _ _ _
      show V D 3 A p l e (rmL 8 0 0) s m args below meth c Q 0 0 (ml cy ad M1) 28 [(0, .ref (ad 0)), (1, vi x), (2, vi z)] []
      refine V.aload_n C dX3_firstFrom_28 0 rfl ?_
      refine V.getf C (v := vi 0) 0 rfl rfl inX3 0 (by decide) fl_X3_56 (fun _ h => h) (by show some _ = some _; rw [ht1]) dX3_firstFrom_29 ?_
      refine V.if_le C 39 dX3_firstFrom_32 (by decide) ⟨by decide, by decide⟩ (fun h32 => ?_) (fun h32 => (by exact absurd h32 (by decide)))
      have cr := ct_rng (dueR h (q x.toNat)) 0 z gz0
      refine V.aload_n C dX3_firstFrom_39 0 rfl ?_
      refine V.iload_n C dX3_firstFrom_40 1 rfl ?_
      refine V.aload_n C dX3_firstFrom_41 0 rfl ?_
      refine V.iload_n C dX3_firstFrom_42 1 rfl ?_
      refine V.iload_n C dX3_firstFrom_43 2 rfl ?_
      refine V.callV C (As := [vi x, vi z]) (st := [vi x, .ref (ad 0)]) (wr := []) kV_X3_103 (c_m_countBefore l D cy sa hfl ad M1 h td n q rq (hmi1) (mk1) x (by omega) (by omega) z (by omega) (by omega)) rfl 0 rfl rfl rfl rfl (Nat.le_of_ble_eq_true rfl) ⟨by decide, by decide⟩ ⟨by decide, by decide⟩ dX3_firstFrom_44 (fun _ _ h => h.elim) (fun v16 w17 r18 => ?_)
      obtain ⟨rfl, hw17⟩ := r18
      rw [hw17]
      show V D 3 A p l e (rmL 8 0 0) s m args below meth c Q 0 0 (ml cy ad M1) 47 [(0, .ref (ad 0)), (1, vi x), (2, vi z)] [vi (ct (dueR h (q (x).toNat)) 0 z), vi x, .ref (ad 0)]
      refine V.callV C (As := [vi x, vi (ct (dueR h (q (x).toNat)) 0 z)]) (st := []) (wr := []) kV_X3_100 (c_m_dueAt l D cy sa hfl ad M1 h td n q rq (hmi1) (mk1) x (by omega) (by omega) (ct (dueR h (q (x).toNat)) 0 z) (by omega) ⟨by omega, by omega⟩) rfl 0 rfl rfl rfl rfl (Nat.le_of_ble_eq_true rfl) ⟨by decide, by decide⟩ ⟨by decide, by decide⟩ dX3_firstFrom_47 (fun _ _ h => h.elim) (fun v19 w20 r21 => ?_)
      obtain ⟨rfl, hw20⟩ := r21
      rw [hw20]
      show V D 3 A p l e (rmL 8 0 0) s m args below meth c Q 0 0 (ml cy ad M1) 50 [(0, .ref (ad 0)), (1, vi x), (2, vi z)] [vi (dk (dueR h (q (x).toNat)) 0 (ct (dueR h (q (x).toNat)) 0 z))]
      rw [hQ]
      exact V.iret C dX3_firstFrom_50 (by decide) (by decide) (⟨_, rfl, fun _ => dk_ct gz0 (by omega), _, rfl, by rw [ht1, kRD_t h6 h13], hmi1⟩)
set_option maxHeartbeats 4000000 in
set_option maxRecDepth 100000 in
theorem c_m_nextDue (l : Launch) (D : va_G) (cy : Nat → ClassId) (sa : Nat → Addr) (hfl : l.stackTraces = false) (ad : Nat → Nat) (M : Nat → Int → Int) (h : Int → Bool) (td : Int) (n : Nat) (q : Nat → Nat → Int) (rq : Nat → Nat) (hmi : MI h td n q rq M) (x : Int) (hx : inR x) (z : Int) (hz : inR z) : Ct l D cy sa yX3_nextDue cX3_nextDue 3 (some .int) 9 0 0 (ml cy ad M) [.ref (ad 0), vi x, vi z] (fun v ws2 => ∃ y, v = some (vi y) ∧ ((kRD n x z) = 0 → y = fst (dueR h (q x.toNat)) z) ∧ ∃ M2, ws2 = ml cy ad M2 ∧ M2 0 0 = (kRD n x z) ∧ MI h td n q rq M2) no_x := by
  refine Ct.of (own := RX3) (lc := [(0, .ref (ad 0)), (1, vi x), (2, vi z)]) (by decide +kernel) hfl (Nat.le_of_ble_eq_true rfl) rfl rfl ?_
  intro p e s m args below meth c A C hex hnm
  generalize hQ : vx_MQ below (Qo D (fun v ws2 => ∃ y, v = some (vi y) ∧ ((kRD n x z) = 0 → y = fst (dueR h (q x.toNat)) z) ∧ ∃ M2, ws2 = ml cy ad M2 ∧ M2 0 0 = (kRD n x z) ∧ MI h td n q rq M2) A) (Xo D no_x A) args s 0 0 A = Q
  replace hQ := hQ.symm
  obtain ⟨hch, ⟨htd, td0, td1⟩, ⟨hmn, hn8⟩, hR, hZ, hQ12⟩ := id hmi
  refine V.aload_n C dX3_nextDue_0 0 rfl ?_
  refine V.iload_n C dX3_nextDue_1 1 rfl ?_
  refine V.iload_n C dX3_nextDue_2 2 rfl ?_
  refine V.callV C (As := [vi x, vi z]) (st := []) (wr := []) kV_X3_106 (c_m_firstFrom l D cy sa hfl ad M h td n q rq hmi x hx z hz) rfl 0 rfl rfl rfl rfl (Nat.le_of_ble_eq_true rfl) ⟨by decide, by decide⟩ ⟨by decide, by decide⟩ dX3_nextDue_3 (fun _ _ h => h.elim) (fun v1 w2 r3 => ?_)
  obtain ⟨y9, rfl, hy9, M1, hw2, ht1, hmi1⟩ := r3
  rw [hw2]
  show V D 3 A p l e (rmL 9 0 0) s m args below meth c Q 0 0 (ml cy ad M1) 6 [(0, .ref (ad 0)), (1, vi x), (2, vi z)] [vi y9]
  rw [hQ]
  exact V.iret C dX3_nextDue_6 (by decide) (by decide) (⟨_, rfl, hy9, _, rfl, ht1, hmi1⟩)
set_option maxHeartbeats 4000000 in
set_option maxRecDepth 100000 in
theorem c_m_nextDueByWalking (l : Launch) (D : va_G) (cy : Nat → ClassId) (sa : Nat → Addr) (hfl : l.stackTraces = false) (ad : Nat → Nat) (M : Nat → Int → Int) (h : Int → Bool) (td : Int) (n : Nat) (q : Nat → Nat → Int) (rq : Nat → Nat) (hmi : MI h td n q rq M) (x : Int) (hx : inR x) (z : Int) (hz : inR z) : Ct l D cy sa yX3_nextDueByWalking cX3_nextDueByWalking 3 (some .int) 9 0 0 (ml cy ad M) [.ref (ad 0), vi x, vi z] (fun v ws2 => ∃ y, v = some (vi y) ∧ ((kRD n x z) = 0 → y = fst (dueR h (q x.toNat)) z) ∧ ∃ M2, ws2 = ml cy ad M2 ∧ M2 0 0 = (kRD n x z) ∧ MI h td n q rq M2) no_x := by
  refine Ct.of (own := RX3) (lc := [(0, .ref (ad 0)), (1, vi x), (2, vi z)]) (by decide +kernel) hfl (Nat.le_of_ble_eq_true rfl) rfl rfl ?_
  intro p e s m args below meth c A C hex hnm
  generalize hQ : vx_MQ below (Qo D (fun v ws2 => ∃ y, v = some (vi y) ∧ ((kRD n x z) = 0 → y = fst (dueR h (q x.toNat)) z) ∧ ∃ M2, ws2 = ml cy ad M2 ∧ M2 0 0 = (kRD n x z) ∧ MI h td n q rq M2) A) (Xo D no_x A) args s 0 0 A = Q
  replace hQ := hQ.symm
  obtain ⟨hch, ⟨htd, td0, td1⟩, ⟨hmn, hn8⟩, hR, hZ, hQ12⟩ := id hmi
  refine V.aload_n C dX3_nextDueByWalking_0 0 rfl ?_
  refine V.iload_n C dX3_nextDueByWalking_1 1 rfl ?_
  refine V.iload_n C dX3_nextDueByWalking_2 2 rfl ?_
  refine V.callV C (As := [vi x, vi z]) (st := []) (wr := []) kV_X3_106 (c_m_firstFrom l D cy sa hfl ad M h td n q rq hmi x hx z hz) rfl 0 rfl rfl rfl rfl (Nat.le_of_ble_eq_true rfl) ⟨by decide, by decide⟩ ⟨by decide, by decide⟩ dX3_nextDueByWalking_3 (fun _ _ h => h.elim) (fun v1 w2 r3 => ?_)
  obtain ⟨y9, rfl, hy9, M1, hw2, ht1, hmi1⟩ := r3
  rw [hw2]
  show V D 3 A p l e (rmL 9 0 0) s m args below meth c Q 0 0 (ml cy ad M1) 6 [(0, .ref (ad 0)), (1, vi x), (2, vi z)] [vi y9]
  rw [hQ]
  exact V.iret C dX3_nextDueByWalking_6 (by decide) (by decide) (⟨_, rfl, hy9, _, rfl, ht1, hmi1⟩)
set_option maxHeartbeats 4000000 in
set_option maxRecDepth 100000 in
theorem c_m_open (l : Launch) (D : va_G) (cy : Nat → ClassId) (sa : Nat → Addr) (hfl : l.stackTraces = false) (ad : Nat → Nat) (M : Nat → Int → Int) (h : Int → Bool) (td : Int) (n : Nat) (q : Nat → Nat → Int) (rq : Nat → Nat) (hmi : MI h td n q rq M) (x : Int) (hx : inR x) : Ct l D cy sa yX3_open cX3_open 2 (some .int) 8 0 0 (ml cy ad M) [.ref (ad 0), vi x] (fun v ws2 => ∃ y, v = some (vi y) ∧ ((kRule n x) = 0 → y = dk (dueR h (q x.toNat)) 0 (q x.toNat 8)) ∧ ∃ M2, ws2 = ml cy ad M2 ∧ M2 0 0 = (kRule n x) ∧ MI h td n q rq M2) no_x := by
  refine Ct.of (own := RX3) (lc := [(0, .ref (ad 0)), (1, vi x)]) (by decide +kernel) hfl (Nat.le_of_ble_eq_true rfl) rfl rfl ?_
  intro p e s m args below meth c A C hex hnm
  generalize hQ : vx_MQ below (Qo D (fun v ws2 => ∃ y, v = some (vi y) ∧ ((kRule n x) = 0 → y = dk (dueR h (q x.toNat)) 0 (q x.toNat 8)) ∧ ∃ M2, ws2 = ml cy ad M2 ∧ M2 0 0 = (kRule n x) ∧ MI h td n q rq M2) A) (Xo D no_x A) args s 0 0 A = Q
  replace hQ := hQ.symm
  obtain ⟨hch, ⟨htd, td0, td1⟩, ⟨hmn, hn8⟩, hR, hZ, hQ12⟩ := id hmi
  obtain ⟨hxl, hxr⟩ := hx
  refine V.aload_n C dX3_open_0 0 rfl ?_
  refine V.aload_n C dX3_open_1 0 rfl ?_
  refine V.iload_n C dX3_open_2 1 rfl ?_
  refine V.callV C (As := [vi x]) (st := [.ref (ad 0)]) (wr := []) kV_X3_84 (c_m_isRule l D cy sa hfl ad M n hmi.2.2.1.1 hn8 x ⟨by omega, by omega⟩) rfl 0 rfl rfl rfl rfl (Nat.le_of_ble_eq_true rfl) ⟨by decide, by decide⟩ ⟨by decide, by decide⟩ dX3_open_3 (fun _ _ h => h.elim) (fun v1 w2 r3 => ?_)
  obtain ⟨rfl, hw2⟩ := r3
  rw [hw2]
  show V D 2 A p l e (rmL 8 0 0) s m args below meth c Q 0 0 (ml cy ad M) 6 [(0, .ref (ad 0)), (1, vi x)] [vi (bI (isR n x)), .ref (ad 0)]
  refine V.if_eqB C 13 dX3_open_6 (by decide) (fun h6 => ?_) (fun h6 => ?_)
  · skip
    refine V.iconst C dX3_open_13 ?_
    refine V.putf C (v := vi 1) (ty := .int) 0 rfl rfl inX3 tyX3 tyX3_ok nmX3 0 (by decide) fl_X3_56 (fun _ h => h) rfl (by decide +kernel) rfl rfl (Nat.le_of_ble_eq_true rfl) dX3_open_14 mput_0_0 ?_
    refine V.aload_n C dX3_open_17 0 rfl ?_
    refine V.callV C (As := []) (st := []) (wr := []) kV_X3_97 (c_m_marks l D cy sa hfl ad (upM M 0 0 1) h td n q rq (hmi.t)) rfl 0 rfl rfl rfl rfl (Nat.le_of_ble_eq_true rfl) ⟨by decide, by decide⟩ ⟨by decide, by decide⟩ dX3_open_18 (fun _ _ h => h.elim) (fun v4 w5 r6 => ?_)
    obtain ⟨rfl, M1, hw5, fr1, mk1⟩ := r6
    rw [hw5]
    have hmi1 : MI h td n q rq M1 := (hmi.t).same (fun k k2 k12 => fr1 k (by omega) (by omega) (by omega)) (by rw [fr1 0 (by decide) (by decide) (by decide)]) (by rw [fr1 0 (by decide) (by decide) (by decide)])
    have hR1 := hmi1.2.2.2.1
    have ht1 : M1 0 0 = 1 := by rw [fr1 0 (by decide) (by decide) (by decide)]; exact upM_s _ _ _ _
    show V D 2 A p l e (rmL 8 0 0) s m args below meth c Q 0 0 (ml cy ad M1) 21 [(0, .ref (ad 0)), (1, vi x)] []
    refine V.aload_n C dX3_open_21 0 rfl ?_
    refine V.getf C (v := vi 1) 0 rfl rfl inX3 0 (by decide) fl_X3_56 (fun _ h => h) (by show some _ = some _; rw [ht1]) dX3_open_22 ?_
    refine V.if_le C 32 dX3_open_25 (by decide) ⟨by decide, by decide⟩ (fun h25 => (by exact absurd h25 (by decide))) (fun h25 => ?_)
    refine V.iconst C dX3_open_28 ?_
    refine V.goto C 43 dX3_open_29 (by decide) ?_
    rw [hQ]
    exact V.iret C dX3_open_43 (by decide) (by decide) (⟨_, rfl, fun e9 => n10 (kRule_f h6) e9, _, rfl, by rw [ht1, kRule_f h6], hmi1⟩)
  · skip
    obtain ⟨gx0, gx1⟩ := isR_iff.mp h6
    refine V.iconst C dX3_open_9 ?_
    refine V.goto C 14 dX3_open_10 (by decide) ?_
    refine V.putf C (v := vi 0) (ty := .int) 0 rfl rfl inX3 tyX3 tyX3_ok nmX3 0 (by decide) fl_X3_56 (fun _ h => h) rfl (by decide +kernel) rfl rfl (Nat.le_of_ble_eq_true rfl) dX3_open_14 mput_0_0 ?_
    refine V.aload_n C dX3_open_17 0 rfl ?_
    refine V.callV C (As := []) (st := []) (wr := []) kV_X3_97 (c_m_marks l D cy sa hfl ad (upM M 0 0 0) h td n q rq (hmi.t)) rfl 0 rfl rfl rfl rfl (Nat.le_of_ble_eq_true rfl) ⟨by decide, by decide⟩ ⟨by decide, by decide⟩ dX3_open_18 (fun _ _ h => h.elim) (fun v7 w8 r9 => ?_)
    obtain ⟨rfl, M1, hw8, fr1, mk1⟩ := r9
    rw [hw8]
    have hmi1 : MI h td n q rq M1 := (hmi.t).same (fun k k2 k12 => fr1 k (by omega) (by omega) (by omega)) (by rw [fr1 0 (by decide) (by decide) (by decide)]) (by rw [fr1 0 (by decide) (by decide) (by decide)])
    have hR1 := hmi1.2.2.2.1
    have ht1 : M1 0 0 = 0 := by rw [fr1 0 (by decide) (by decide) (by decide)]; exact upM_s _ _ _ _
    show V D 2 A p l e (rmL 8 0 0) s m args below meth c Q 0 0 (ml cy ad M1) 21 [(0, .ref (ad 0)), (1, vi x)] []
    refine V.aload_n C dX3_open_21 0 rfl ?_
    refine V.getf C (v := vi 0) 0 rfl rfl inX3 0 (by decide) fl_X3_56 (fun _ h => h) (by show some _ = some _; rw [ht1]) dX3_open_22 ?_
    refine V.if_le C 32 dX3_open_25 (by decide) ⟨by decide, by decide⟩ (fun h25 => ?_) (fun h25 => (by exact absurd h25 (by decide)))
    have p8 := (hR x gx0 gx1).2.2.2.2.2.2.2.2.2.1
    refine V.aload_n C dX3_open_32 0 rfl ?_
    refine V.iload_n C dX3_open_33 1 rfl ?_
    refine V.aload_n C dX3_open_34 0 rfl ?_
    refine V.getf C (v := .ref (ad 10)) 0 rfl rfl inX3 10 (by decide) fl_X3_32 (fun _ h => h) rfl dX3_open_35 ?_
    refine V.iload_n C dX3_open_38 1 rfl ?_
    refine V.iald C (v := q (x).toNat 8) 8 rfl (by omega) (by omega) (by decide) (ld_ar (by omega) ((hR1 _ (by omega) (by omega)).1.2.2.2.2.2.2.1)) dX3_open_39 ?_
    refine V.callV C (As := [vi x, vi (q (x).toNat 8)]) (st := []) (wr := []) kV_X3_100 (c_m_dueAt l D cy sa hfl ad M1 h td n q rq (hmi1) (mk1) x (by omega) (by omega) (q (x).toNat 8) (by omega) ⟨by omega, by omega⟩) rfl 0 rfl rfl rfl rfl (Nat.le_of_ble_eq_true rfl) ⟨by decide, by decide⟩ ⟨by decide, by decide⟩ dX3_open_40 (fun _ _ h => h.elim) (fun v10 w11 r12 => ?_)
    obtain ⟨rfl, hw11⟩ := r12
    rw [hw11]
    show V D 2 A p l e (rmL 8 0 0) s m args below meth c Q 0 0 (ml cy ad M1) 43 [(0, .ref (ad 0)), (1, vi x)] [vi (dk (dueR h (q (x).toNat)) 0 (q (x).toNat 8))]
    rw [hQ]
    exact V.iret C dX3_open_43 (by decide) (by decide) (⟨_, rfl, fun _ => rfl, _, rfl, by rw [ht1, kRule_t h6], hmi1⟩)
set_option maxHeartbeats 4000000 in
set_option maxRecDepth 100000 in
theorem c_m_load (l : Launch) (D : va_G) (cy : Nat → ClassId) (sa : Nat → Addr) (hfl : l.stackTraces = false) (ad : Nat → Nat) (M : Nat → Int → Int) (h : Int → Bool) (td : Int) (n : Nat) (q : Nat → Nat → Int) (rq : Nat → Nat) (hmi : MI h td n q rq M) (x : Int) (hx : inR x) : Ct l D cy sa yX3_load cX3_load 2 (some .int) 8 0 0 (ml cy ad M) [.ref (ad 0), vi x] (fun v ws2 => ∃ y, v = some (vi y) ∧ ((kDay x) = 0 → y = efs h q n x) ∧ ∃ M2, ws2 = ml cy ad M2 ∧ M2 0 0 = (kDay x) ∧ MI h td n q rq M2) no_x := by
  refine Ct.of (own := RX3) (lc := [(0, .ref (ad 0)), (1, vi x)]) (by decide +kernel) hfl (Nat.le_of_ble_eq_true rfl) rfl rfl ?_
  intro p e s m args below meth c A C hex hnm
  generalize hQ : vx_MQ below (Qo D (fun v ws2 => ∃ y, v = some (vi y) ∧ ((kDay x) = 0 → y = efs h q n x) ∧ ∃ M2, ws2 = ml cy ad M2 ∧ M2 0 0 = (kDay x) ∧ MI h td n q rq M2) A) (Xo D no_x A) args s 0 0 A = Q
  replace hQ := hQ.symm
  obtain ⟨hch, ⟨htd, td0, td1⟩, ⟨hmn, hn8⟩, hR, hZ, hQ12⟩ := id hmi
  obtain ⟨hxl, hxr⟩ := hx
  refine V.aload_n C dX3_load_0 0 rfl ?_
  refine V.iload_n C dX3_load_1 1 rfl ?_
  refine V.callS C (As := [vi x]) (st := [.ref (ad 0)]) (wr := []) kS_X3_67 (c_m_isDay l D cy sa hfl _ x ⟨by omega, by omega⟩) rfl rfl rfl (Nat.le_of_ble_eq_true rfl) ⟨by decide, by decide⟩ ⟨by decide, by decide⟩ dX3_load_2 (fun _ _ h => h.elim) (fun v1 w2 r3 => ?_)
  obtain ⟨rfl, hw2⟩ := r3
  rw [hw2]
  show V D 2 A p l e (rmL 8 0 0) s m args below meth c Q 0 0 (ml cy ad M) 5 [(0, .ref (ad 0)), (1, vi x)] [vi (bI (isDy x)), .ref (ad 0)]
  refine V.if_eqB C 12 dX3_load_5 (by decide) (fun h5 => ?_) (fun h5 => ?_)
  · skip
    refine V.iconst C dX3_load_12 ?_
    refine V.putf C (v := vi 1) (ty := .int) 0 rfl rfl inX3 tyX3 tyX3_ok nmX3 0 (by decide) fl_X3_56 (fun _ h => h) rfl (by decide +kernel) rfl rfl (Nat.le_of_ble_eq_true rfl) dX3_load_13 mput_0_0 ?_
    refine V.aload_n C dX3_load_16 0 rfl ?_
    refine V.callV C (As := []) (st := []) (wr := []) kV_X3_97 (c_m_marks l D cy sa hfl ad (upM M 0 0 1) h td n q rq (hmi.t)) rfl 0 rfl rfl rfl rfl (Nat.le_of_ble_eq_true rfl) ⟨by decide, by decide⟩ ⟨by decide, by decide⟩ dX3_load_17 (fun _ _ h => h.elim) (fun v4 w5 r6 => ?_)
    obtain ⟨rfl, M1, hw5, fr1, mk1⟩ := r6
    rw [hw5]
    have hmi1 : MI h td n q rq M1 := (hmi.t).same (fun k k2 k12 => fr1 k (by omega) (by omega) (by omega)) (by rw [fr1 0 (by decide) (by decide) (by decide)]) (by rw [fr1 0 (by decide) (by decide) (by decide)])
    have hR1 := hmi1.2.2.2.1
    have ht1 : M1 0 0 = 1 := by rw [fr1 0 (by decide) (by decide) (by decide)]; exact upM_s _ _ _ _
    show V D 2 A p l e (rmL 8 0 0) s m args below meth c Q 0 0 (ml cy ad M1) 20 [(0, .ref (ad 0)), (1, vi x)] []
    refine V.aload_n C dX3_load_20 0 rfl ?_
    refine V.getf C (v := vi 1) 0 rfl rfl inX3 0 (by decide) fl_X3_56 (fun _ h => h) (by show some _ = some _; rw [ht1]) dX3_load_21 ?_
    refine V.if_le C 31 dX3_load_24 (by decide) ⟨by decide, by decide⟩ (fun h24 => (by exact absurd h24 (by decide))) (fun h24 => ?_)
    refine V.iconst C dX3_load_27 ?_
    refine V.goto C 36 dX3_load_28 (by decide) ?_
    rw [hQ]
    exact V.iret C dX3_load_36 (by decide) (by decide) (⟨_, rfl, fun e9 => n10 (kDay_1 h5) e9, _, rfl, by rw [ht1, kDay_1 h5], hmi1⟩)
  · skip
    have gx := isDy_iff.mp h5
    obtain ⟨gx0, gx1⟩ := gx
    refine V.iconst C dX3_load_8 ?_
    refine V.goto C 13 dX3_load_9 (by decide) ?_
    refine V.putf C (v := vi 0) (ty := .int) 0 rfl rfl inX3 tyX3 tyX3_ok nmX3 0 (by decide) fl_X3_56 (fun _ h => h) rfl (by decide +kernel) rfl rfl (Nat.le_of_ble_eq_true rfl) dX3_load_13 mput_0_0 ?_
    refine V.aload_n C dX3_load_16 0 rfl ?_
    refine V.callV C (As := []) (st := []) (wr := []) kV_X3_97 (c_m_marks l D cy sa hfl ad (upM M 0 0 0) h td n q rq (hmi.t)) rfl 0 rfl rfl rfl rfl (Nat.le_of_ble_eq_true rfl) ⟨by decide, by decide⟩ ⟨by decide, by decide⟩ dX3_load_17 (fun _ _ h => h.elim) (fun v7 w8 r9 => ?_)
    obtain ⟨rfl, M1, hw8, fr1, mk1⟩ := r9
    rw [hw8]
    have hmi1 : MI h td n q rq M1 := (hmi.t).same (fun k k2 k12 => fr1 k (by omega) (by omega) (by omega)) (by rw [fr1 0 (by decide) (by decide) (by decide)]) (by rw [fr1 0 (by decide) (by decide) (by decide)])
    have hR1 := hmi1.2.2.2.1
    have ht1 : M1 0 0 = 0 := by rw [fr1 0 (by decide) (by decide) (by decide)]; exact upM_s _ _ _ _
    show V D 2 A p l e (rmL 8 0 0) s m args below meth c Q 0 0 (ml cy ad M1) 20 [(0, .ref (ad 0)), (1, vi x)] []
    refine V.aload_n C dX3_load_20 0 rfl ?_
    refine V.getf C (v := vi 0) 0 rfl rfl inX3 0 (by decide) fl_X3_56 (fun _ h => h) (by show some _ = some _; rw [ht1]) dX3_load_21 ?_
    refine V.if_le C 31 dX3_load_24 (by decide) ⟨by decide, by decide⟩ (fun h24 => ?_) (fun h24 => (by exact absurd h24 (by decide)))
    refine V.aload_n C dX3_load_31 0 rfl ?_
    refine V.iload_n C dX3_load_32 1 rfl ?_
    refine V.callV C (As := [vi x]) (st := []) (wr := []) kV_X3_120 (c_m_loadOf l D cy sa hfl ad M1 h td n q rq (hmi1) (mk1) x (by omega) (by omega)) rfl 0 rfl rfl rfl rfl (Nat.le_of_ble_eq_true rfl) ⟨by decide, by decide⟩ ⟨by decide, by decide⟩ dX3_load_33 (fun _ _ h => h.elim) (fun v10 w11 r12 => ?_)
    obtain ⟨rfl, hw11⟩ := r12
    rw [hw11]
    show V D 2 A p l e (rmL 8 0 0) s m args below meth c Q 0 0 (ml cy ad M1) 36 [(0, .ref (ad 0)), (1, vi x)] [vi (efs h q n x)]
    rw [hQ]
    exact V.iret C dX3_load_36 (by decide) (by decide) (⟨_, rfl, fun _ => rfl, _, rfl, by rw [ht1, kDay_t h5], hmi1⟩)
theorem efsM_rng {h : Int → Bool} {td : Int} {n : Nat} {q : Nat → Nat → Int} {rq : Nat → Nat} {M : Nat → Int → Int} (hm : MI h td n q rq M) (d : Int) : 0 ≤ efs h q n d ∧ efs h q n d ≤ 72 := by
  obtain ⟨-, -, ⟨-, hn⟩, hR, -⟩ := hm
  have := sumN_rng (f := ef h q d) (b := 9) (by decide) (n := n) fun i hi => by
    have p3 := (hR (i : Int) (by omega) (by omega)).2.2.2.2.2.2.1
    rw [Int.toNat_natCast] at p3
    unfold ef
    split <;> omega
  unfold efs
  omega
set_option maxHeartbeats 4000000 in
set_option maxRecDepth 100000 in
theorem c_m_heaviest (l : Launch) (D : va_G) (cy : Nat → ClassId) (sa : Nat → Addr) (hfl : l.stackTraces = false) (ad : Nat → Nat) (M : Nat → Int → Int) (h : Int → Bool) (td : Int) (n : Nat) (q : Nat → Nat → Int) (rq : Nat → Nat) (hmi : MI h td n q rq M) (x : Int) (hx : inR x) (z : Int) (hz : inR z) : Ct l D cy sa yX3_heaviest cX3_heaviest 5 (some .int) 8 0 0 (ml cy ad M) [.ref (ad 0), vi x, vi z] (fun v ws2 => ∃ y, v = some (vi y) ∧ ((kSpan x z) = 0 → y = hv (efs h q n) x x z) ∧ ∃ M2, ws2 = ml cy ad M2 ∧ M2 0 0 = (kSpan x z) ∧ MI h td n q rq M2) no_x := by
  refine Ct.of (own := RX3) (lc := [(0, .ref (ad 0)), (1, vi x), (2, vi z)]) (by decide +kernel) hfl (Nat.le_of_ble_eq_true rfl) rfl rfl ?_
  intro p e s m args below meth c A C hex hnm
  generalize hQ : vx_MQ below (Qo D (fun v ws2 => ∃ y, v = some (vi y) ∧ ((kSpan x z) = 0 → y = hv (efs h q n) x x z) ∧ ∃ M2, ws2 = ml cy ad M2 ∧ M2 0 0 = (kSpan x z) ∧ MI h td n q rq M2) A) (Xo D no_x A) args s 0 0 A = Q
  replace hQ := hQ.symm
  obtain ⟨hch, ⟨htd, td0, td1⟩, ⟨hmn, hn8⟩, hR, hZ, hQ12⟩ := id hmi
  obtain ⟨hxl, hxr⟩ := hx
  obtain ⟨hzl, hzr⟩ := hz
  have ks := kSpan_rng x z
  refine V.aload_n C dX3_heaviest_0 0 rfl ?_
  refine V.iload_n C dX3_heaviest_1 1 rfl ?_
  refine V.iload_n C dX3_heaviest_2 2 rfl ?_
  refine V.callS C (As := [vi x, vi z]) (st := [.ref (ad 0)]) (wr := []) kS_X3_74 (c_m_barsSpan l D cy sa hfl _ x z ⟨by omega, by omega⟩ ⟨by omega, by omega⟩) rfl rfl rfl (Nat.le_of_ble_eq_true rfl) ⟨by decide, by decide⟩ ⟨by decide, by decide⟩ dX3_heaviest_3 (fun _ _ h => h.elim) (fun v1 w2 r3 => ?_)
  obtain ⟨rfl, hw2⟩ := r3
  rw [hw2]
  show V D 5 A p l e (rmL 8 0 0) s m args below meth c Q 0 0 (ml cy ad M) 6 [(0, .ref (ad 0)), (1, vi x), (2, vi z)] [vi (kSpan x z), .ref (ad 0)]
  refine V.putf C (v := vi (kSpan x z)) (ty := .int) 0 rfl rfl inX3 tyX3 tyX3_ok nmX3 0 (by decide) fl_X3_56 (fun _ h => h) rfl (by decide +kernel) rfl rfl (Nat.le_of_ble_eq_true rfl) dX3_heaviest_6 mput_0_0 ?_
  refine V.aload_n C dX3_heaviest_9 0 rfl ?_
  refine V.callV C (As := []) (st := []) (wr := []) kV_X3_97 (c_m_marks l D cy sa hfl ad (upM M 0 0 (kSpan x z)) h td n q rq (hmi.t)) rfl 0 rfl rfl rfl rfl (Nat.le_of_ble_eq_true rfl) ⟨by decide, by decide⟩ ⟨by decide, by decide⟩ dX3_heaviest_10 (fun _ _ h => h.elim) (fun v4 w5 r6 => ?_)
  obtain ⟨rfl, M1, hw5, fr1, mk1⟩ := r6
  rw [hw5]
  have hmi1 : MI h td n q rq M1 := (hmi.t).same (fun k k2 k12 => fr1 k (by omega) (by omega) (by omega)) (by rw [fr1 0 (by decide) (by decide) (by decide)]) (by rw [fr1 0 (by decide) (by decide) (by decide)])
  have hR1 := hmi1.2.2.2.1
  have ht1 : M1 0 0 = (kSpan x z) := by rw [fr1 0 (by decide) (by decide) (by decide)]; exact upM_s _ _ _ _
  show V D 5 A p l e (rmL 8 0 0) s m args below meth c Q 0 0 (ml cy ad M1) 13 [(0, .ref (ad 0)), (1, vi x), (2, vi z)] []
  refine V.iload_n C dX3_heaviest_13 1 rfl ?_
  refine V.istore_n C (lc2 := [(3, vi x), (0, .ref (ad 0)), (1, vi x), (2, vi z)]) dX3_heaviest_14 (by decide) rfl ?_
  refine V.iload_n C dX3_heaviest_15 2 rfl ?_
  refine V.istore C (lc2 := [(4, vi x), (3, vi x), (0, .ref (ad 0)), (1, vi x), (2, vi z)]) dX3_heaviest_16 (by decide) rfl ?_
  have loop18 : ∀ (fz : Nat) (d : Int) (b : Int), (x ≤ d) → (d = x ∨ (kSpan x z = 0 ∧ d ≤ z + 1 ∧ z < 720)) → (kSpan x z = 0 → x ≤ b ∧ b ≤ z) → (kSpan x z = 0 → hv (efs h q n) x x z = hv (efs h q n) b d z) → ((z + 1 - d).toNat < fz) → V D 5 A p l e (rmL 8 0 0) s m args below meth c Q 0 0 (ml cy ad M1) 18 [(4, vi d), (3, vi b), (0, .ref (ad 0)), (1, vi x), (2, vi z)] [] := by
    intro fz
    induction fz with
    | zero => intro d b e0 e1 e2 e3 hf; exact absurd hf (Nat.not_lt_zero _)
    | succ fz ih18 =>
      intro d b e0 e1 e2 e3 hf18
      refine V.iload C dX3_heaviest_18 0 rfl ?_
      refine V.iload_n C dX3_heaviest_20 4 rfl ?_
      refine V.icmp_gt C 58 dX3_heaviest_21 (by decide) ⟨by omega, by omega⟩ ⟨by omega, by omega⟩ (fun h21 => ?_) (fun h21 => ?_)
      · skip
        refine V.aload_n C dX3_heaviest_58 2 rfl ?_
        refine V.getf C (v := vi (kSpan x z)) 0 rfl rfl inX3 0 (by decide) fl_X3_56 (fun _ h => h) (by show some _ = some _; rw [ht1]) dX3_heaviest_59 ?_
        refine V.if_le C 69 dX3_heaviest_62 (by decide) ⟨by omega, by omega⟩ (fun h62 => ?_) (fun h62 => ?_)
        · skip
          have hk0 := (kSpan_z (show kSpan x z ≤ 0 by omega)).1
          have hk9 := kSpan_z (show kSpan x z ≤ 0 by omega)
          have eb := e2 hk0
          refine V.iload_n C dX3_heaviest_69 1 rfl ?_
          rw [hQ]
          exact V.iret C dX3_heaviest_70 (by decide) (by decide) (⟨_, rfl, fun e9 => by rw [e3 e9, hv_end (by omega)], _, rfl, ht1, hmi1⟩)
        · skip
          refine V.iconst C dX3_heaviest_65 ?_
          refine V.goto C 70 dX3_heaviest_66 (by decide) ?_
          rw [hQ]
          exact V.iret C dX3_heaviest_70 (by decide) (by decide) (⟨_, rfl, fun e9 => absurd e9 (by omega), _, rfl, ht1, hmi1⟩)
      · skip
        refine V.aload_n C dX3_heaviest_24 2 rfl ?_
        refine V.getf C (v := vi (kSpan x z)) 0 rfl rfl inX3 0 (by decide) fl_X3_56 (fun _ h => h) (by show some _ = some _; rw [ht1]) dX3_heaviest_25 ?_
        refine V.if_ne C 58 dX3_heaviest_28 (by decide) ⟨by omega, by omega⟩ (fun h28 => ?_) (fun h28 => ?_)
        · skip
          refine V.aload_n C dX3_heaviest_58 2 rfl ?_
          refine V.getf C (v := vi (kSpan x z)) 0 rfl rfl inX3 0 (by decide) fl_X3_56 (fun _ h => h) (by show some _ = some _; rw [ht1]) dX3_heaviest_59 ?_
          refine V.if_le C 69 dX3_heaviest_62 (by decide) ⟨by omega, by omega⟩ (fun h62 => (by exfalso; omega)) (fun h62 => ?_)
          refine V.iconst C dX3_heaviest_65 ?_
          refine V.goto C 70 dX3_heaviest_66 (by decide) ?_
          rw [hQ]
          exact V.iret C dX3_heaviest_70 (by decide) (by decide) (⟨_, rfl, fun e9 => absurd e9 (by omega), _, rfl, ht1, hmi1⟩)
        · skip
          obtain ⟨hk0, gx0, gx1, gz0, gz1, gxz⟩ := kSpan_z (show kSpan x z ≤ 0 by omega)
          have lr := efsM_rng hmi
          have lr1 := lr d
          have lr2 := lr b
          have eb := e2 hk0
          refine V.aload_n C dX3_heaviest_31 2 rfl ?_
          refine V.iload C dX3_heaviest_32 0 rfl ?_
          refine V.callV C (As := [vi d]) (st := []) (wr := []) kV_X3_120 (c_m_loadOf l D cy sa hfl ad M1 h td n q rq (hmi1) (mk1) d (by omega) (by omega)) rfl 0 rfl rfl rfl rfl (Nat.le_of_ble_eq_true rfl) ⟨by decide, by decide⟩ ⟨by decide, by decide⟩ dX3_heaviest_34 (fun _ _ h => h.elim) (fun v7 w8 r9 => ?_)
          obtain ⟨rfl, hw8⟩ := r9
          rw [hw8]
          show V D 5 A p l e (rmL 8 0 0) s m args below meth c Q 0 0 (ml cy ad M1) 37 [(4, vi d), (3, vi b), (0, .ref (ad 0)), (1, vi x), (2, vi z)] [vi (efs h q n d)]
          refine V.aload_n C dX3_heaviest_37 2 rfl ?_
          refine V.iload_n C dX3_heaviest_38 1 rfl ?_
          refine V.callV C (As := [vi b]) (st := [vi (efs h q n d)]) (wr := []) kV_X3_120 (c_m_loadOf l D cy sa hfl ad M1 h td n q rq (hmi1) (mk1) b (by omega) (by omega)) rfl 0 rfl rfl rfl rfl (Nat.le_of_ble_eq_true rfl) ⟨by decide, by decide⟩ ⟨by decide, by decide⟩ dX3_heaviest_39 (fun _ _ h => h.elim) (fun v10 w11 r12 => ?_)
          obtain ⟨rfl, hw11⟩ := r12
          rw [hw11]
          show V D 5 A p l e (rmL 8 0 0) s m args below meth c Q 0 0 (ml cy ad M1) 42 [(4, vi d), (3, vi b), (0, .ref (ad 0)), (1, vi x), (2, vi z)] [vi (efs h q n b), vi (efs h q n d)]
          refine V.icmp_le C 50 dX3_heaviest_42 (by decide) ⟨by omega, by omega⟩ ⟨by omega, by omega⟩ (fun h42 => ?_) (fun h42 => ?_)
          · skip
            refine V.iload_n C dX3_heaviest_50 1 rfl ?_
            refine V.istore_n C (lc2 := [(3, vi b), (4, vi d), (0, .ref (ad 0)), (1, vi x), (2, vi z)]) dX3_heaviest_51 (by decide) rfl ?_
            refine V.iinc C (lc2 := [(4, vi (d + 1)), (3, vi b), (0, .ref (ad 0)), (1, vi x), (2, vi z)]) dX3_heaviest_52 1 rfl (by decide) rfl ?_
            refine V.goto C 18 dX3_heaviest_55 (by decide) ?_
            exact ih18 (d + 1) b (by omega) (by omega) (by omega) (fun z9 => by rw [e3 z9, hv_at (by omega), if_neg (by omega)]) (by omega)
          · skip
            refine V.iload C dX3_heaviest_45 0 rfl ?_
            refine V.goto C 51 dX3_heaviest_47 (by decide) ?_
            refine V.istore_n C (lc2 := [(3, vi d), (4, vi d), (0, .ref (ad 0)), (1, vi x), (2, vi z)]) dX3_heaviest_51 (by decide) rfl ?_
            refine V.iinc C (lc2 := [(4, vi (d + 1)), (3, vi d), (0, .ref (ad 0)), (1, vi x), (2, vi z)]) dX3_heaviest_52 1 rfl (by decide) rfl ?_
            refine V.goto C 18 dX3_heaviest_55 (by decide) ?_
            exact ih18 (d + 1) d (by omega) (by omega) (by omega) (fun z9 => by rw [e3 z9, hv_at (by omega), if_pos (by omega)]) (by omega)
  exact loop18 _ x x (by omega) (by omega) (fun z9 => by have := kSpan_z (show kSpan x z ≤ 0 by omega); omega) (fun _ => rfl) (Nat.lt_succ_self _)
set_option maxHeartbeats 4000000 in
set_option maxRecDepth 100000 in
theorem c_m_upcoming (l : Launch) (D : va_G) (cy : Nat → ClassId) (sa : Nat → Addr) (hfl : l.stackTraces = false) (ad : Nat → Nat) (M : Nat → Int → Int) (h : Int → Bool) (td : Int) (n : Nat) (q : Nat → Nat → Int) (rq : Nat → Nat) (hmi : MI h td n q rq M) (x : Int) (hx : inR x) (z : Int) (hz : inR z) : Ct l D cy sa yX3_upcoming cX3_upcoming 6 (some .int) 8 0 0 (ml cy ad M) [.ref (ad 0), vi x, vi z] (fun v ws2 => ∃ y, v = some (vi y) ∧ ((kDP x z) = 0 → y = upc h q n x z) ∧ ∃ M2, ws2 = ml cy ad M2 ∧ M2 0 0 = (kDP x z) ∧ MI h td n q rq M2) no_x := by
  refine Ct.of (own := RX3) (lc := [(0, .ref (ad 0)), (1, vi x), (2, vi z)]) (by decide +kernel) hfl (Nat.le_of_ble_eq_true rfl) rfl rfl ?_
  intro p e s m args below meth c A C hex hnm
  generalize hQ : vx_MQ below (Qo D (fun v ws2 => ∃ y, v = some (vi y) ∧ ((kDP x z) = 0 → y = upc h q n x z) ∧ ∃ M2, ws2 = ml cy ad M2 ∧ M2 0 0 = (kDP x z) ∧ MI h td n q rq M2) A) (Xo D no_x A) args s 0 0 A = Q
  replace hQ := hQ.symm
  obtain ⟨hch, ⟨htd, td0, td1⟩, ⟨hmn, hn8⟩, hR, hZ, hQ12⟩ := id hmi
  obtain ⟨hxl, hxr⟩ := hx
  obtain ⟨hzl, hzr⟩ := hz
  refine V.aload_n C dX3_upcoming_0 0 rfl ?_
  refine V.iload_n C dX3_upcoming_1 1 rfl ?_
  refine V.callS C (As := [vi x]) (st := [.ref (ad 0)]) (wr := []) kS_X3_67 (c_m_isDay l D cy sa hfl _ x ⟨by omega, by omega⟩) rfl rfl rfl (Nat.le_of_ble_eq_true rfl) ⟨by decide, by decide⟩ ⟨by decide, by decide⟩ dX3_upcoming_2 (fun _ _ h => h.elim) (fun v1 w2 r3 => ?_)
  obtain ⟨rfl, hw2⟩ := r3
  rw [hw2]
  show V D 6 A p l e (rmL 8 0 0) s m args below meth c Q 0 0 (ml cy ad M) 5 [(0, .ref (ad 0)), (1, vi x), (2, vi z)] [vi (bI (isDy x)), .ref (ad 0)]
  refine V.if_eqB C 16 dX3_upcoming_5 (by decide) (fun h5 => ?_) (fun h5 => ?_)
  · skip
    refine V.iconst C dX3_upcoming_16 ?_
    refine V.putf C (v := vi 1) (ty := .int) 0 rfl rfl inX3 tyX3 tyX3_ok nmX3 0 (by decide) fl_X3_56 (fun _ h => h) rfl (by decide +kernel) rfl rfl (Nat.le_of_ble_eq_true rfl) dX3_upcoming_17 mput_0_0 ?_
    refine V.aload_n C dX3_upcoming_20 0 rfl ?_
    refine V.callV C (As := []) (st := []) (wr := []) kV_X3_97 (c_m_marks l D cy sa hfl ad (upM M 0 0 1) h td n q rq (hmi.t)) rfl 0 rfl rfl rfl rfl (Nat.le_of_ble_eq_true rfl) ⟨by decide, by decide⟩ ⟨by decide, by decide⟩ dX3_upcoming_21 (fun _ _ h => h.elim) (fun v4 w5 r6 => ?_)
    obtain ⟨rfl, M1, hw5, fr1, mk1⟩ := r6
    rw [hw5]
    have hmi1 : MI h td n q rq M1 := (hmi.t).same (fun k k2 k12 => fr1 k (by omega) (by omega) (by omega)) (by rw [fr1 0 (by decide) (by decide) (by decide)]) (by rw [fr1 0 (by decide) (by decide) (by decide)])
    have hR1 := hmi1.2.2.2.1
    have ht1 : M1 0 0 = 1 := by rw [fr1 0 (by decide) (by decide) (by decide)]; exact upM_s _ _ _ _
    show V D 6 A p l e (rmL 8 0 0) s m args below meth c Q 0 0 (ml cy ad M1) 24 [(0, .ref (ad 0)), (1, vi x), (2, vi z)] []
    refine V.iload_n C dX3_upcoming_24 2 rfl ?_
    refine V.istore_n C (lc2 := [(3, vi z), (0, .ref (ad 0)), (1, vi x), (2, vi z)]) dX3_upcoming_25 (by decide) rfl ?_
    refine V.iload_n C dX3_upcoming_26 2 rfl ?_
    refine V.istore C (lc2 := [(4, vi x), (3, vi z), (0, .ref (ad 0)), (1, vi x), (2, vi z)]) dX3_upcoming_27 (by decide) rfl ?_
    refine V.iload C dX3_upcoming_29 0 rfl ?_
    refine V.sipush C dX3_upcoming_31 (by decide) ?_
    refine V.icmp_ge C 101 dX3_upcoming_34 (by decide) ⟨by omega, by omega⟩ ⟨by decide, by decide⟩ (fun h34 => ?_) (fun h34 => ?_)
    · skip
      refine V.aload_n C dX3_upcoming_101 2 rfl ?_
      refine V.getf C (v := vi 1) 0 rfl rfl inX3 0 (by decide) fl_X3_56 (fun _ h => h) (by show some _ = some _; rw [ht1]) dX3_upcoming_102 ?_
      refine V.if_le C 112 dX3_upcoming_105 (by decide) ⟨by decide, by decide⟩ (fun h105 => (by exact absurd h105 (by decide))) (fun h105 => ?_)
      refine V.iconst C dX3_upcoming_108 ?_
      refine V.goto C 113 dX3_upcoming_109 (by decide) ?_
      rw [hQ]
      exact V.iret C dX3_upcoming_113 (by decide) (by decide) (⟨_, rfl, fun e9 => n10 (kDP_1 (Or.inl h5)) e9, _, rfl, by rw [ht1, kDP_1 (Or.inl h5)], hmi1⟩)
    · skip
      refine V.aload_n C dX3_upcoming_37 2 rfl ?_
      refine V.getf C (v := vi 1) 0 rfl rfl inX3 0 (by decide) fl_X3_56 (fun _ h => h) (by show some _ = some _; rw [ht1]) dX3_upcoming_38 ?_
      refine V.if_ne C 101 dX3_upcoming_41 (by decide) ⟨by decide, by decide⟩ (fun h41 => ?_) (fun h41 => (by exact absurd h41 (by decide)))
      refine V.aload_n C dX3_upcoming_101 2 rfl ?_
      refine V.getf C (v := vi 1) 0 rfl rfl inX3 0 (by decide) fl_X3_56 (fun _ h => h) (by show some _ = some _; rw [ht1]) dX3_upcoming_102 ?_
      refine V.if_le C 112 dX3_upcoming_105 (by decide) ⟨by decide, by decide⟩ (fun h105 => (by exact absurd h105 (by decide))) (fun h105 => ?_)
      refine V.iconst C dX3_upcoming_108 ?_
      refine V.goto C 113 dX3_upcoming_109 (by decide) ?_
      rw [hQ]
      exact V.iret C dX3_upcoming_113 (by decide) (by decide) (⟨_, rfl, fun e9 => n10 (kDP_1 (Or.inl h5)) e9, _, rfl, by rw [ht1, kDP_1 (Or.inl h5)], hmi1⟩)
  · skip
    have gx := isDy_iff.mp h5
    obtain ⟨gx0, gx1⟩ := gx
    refine V.iload_n C dX3_upcoming_8 2 rfl ?_
    refine V.if_lt C 16 dX3_upcoming_9 (by decide) ⟨by omega, by omega⟩ (fun h9 => ?_) (fun h9 => ?_)
    · skip
      refine V.iconst C dX3_upcoming_16 ?_
      refine V.putf C (v := vi 1) (ty := .int) 0 rfl rfl inX3 tyX3 tyX3_ok nmX3 0 (by decide) fl_X3_56 (fun _ h => h) rfl (by decide +kernel) rfl rfl (Nat.le_of_ble_eq_true rfl) dX3_upcoming_17 mput_0_0 ?_
      refine V.aload_n C dX3_upcoming_20 0 rfl ?_
      refine V.callV C (As := []) (st := []) (wr := []) kV_X3_97 (c_m_marks l D cy sa hfl ad (upM M 0 0 1) h td n q rq (hmi.t)) rfl 0 rfl rfl rfl rfl (Nat.le_of_ble_eq_true rfl) ⟨by decide, by decide⟩ ⟨by decide, by decide⟩ dX3_upcoming_21 (fun _ _ h => h.elim) (fun v7 w8 r9 => ?_)
      obtain ⟨rfl, M1, hw8, fr1, mk1⟩ := r9
      rw [hw8]
      have hmi1 : MI h td n q rq M1 := (hmi.t).same (fun k k2 k12 => fr1 k (by omega) (by omega) (by omega)) (by rw [fr1 0 (by decide) (by decide) (by decide)]) (by rw [fr1 0 (by decide) (by decide) (by decide)])
      have hR1 := hmi1.2.2.2.1
      have ht1 : M1 0 0 = 1 := by rw [fr1 0 (by decide) (by decide) (by decide)]; exact upM_s _ _ _ _
      show V D 6 A p l e (rmL 8 0 0) s m args below meth c Q 0 0 (ml cy ad M1) 24 [(0, .ref (ad 0)), (1, vi x), (2, vi z)] []
      refine V.iload_n C dX3_upcoming_24 2 rfl ?_
      refine V.istore_n C (lc2 := [(3, vi z), (0, .ref (ad 0)), (1, vi x), (2, vi z)]) dX3_upcoming_25 (by decide) rfl ?_
      refine V.iload_n C dX3_upcoming_26 2 rfl ?_
      refine V.istore C (lc2 := [(4, vi x), (3, vi z), (0, .ref (ad 0)), (1, vi x), (2, vi z)]) dX3_upcoming_27 (by decide) rfl ?_
      refine V.iload C dX3_upcoming_29 0 rfl ?_
      refine V.sipush C dX3_upcoming_31 (by decide) ?_
      refine V.icmp_ge C 101 dX3_upcoming_34 (by decide) ⟨by omega, by omega⟩ ⟨by decide, by decide⟩ (fun h34 => ?_) (fun h34 => ?_)
      · skip
        refine V.aload_n C dX3_upcoming_101 2 rfl ?_
        refine V.getf C (v := vi 1) 0 rfl rfl inX3 0 (by decide) fl_X3_56 (fun _ h => h) (by show some _ = some _; rw [ht1]) dX3_upcoming_102 ?_
        refine V.if_le C 112 dX3_upcoming_105 (by decide) ⟨by decide, by decide⟩ (fun h105 => (by exact absurd h105 (by decide))) (fun h105 => ?_)
        refine V.iconst C dX3_upcoming_108 ?_
        refine V.goto C 113 dX3_upcoming_109 (by decide) ?_
        rw [hQ]
        exact V.iret C dX3_upcoming_113 (by decide) (by decide) (⟨_, rfl, fun e9 => n10 (kDP_1 (Or.inr h9)) e9, _, rfl, by rw [ht1, kDP_1 (Or.inr h9)], hmi1⟩)
      · skip
        refine V.aload_n C dX3_upcoming_37 2 rfl ?_
        refine V.getf C (v := vi 1) 0 rfl rfl inX3 0 (by decide) fl_X3_56 (fun _ h => h) (by show some _ = some _; rw [ht1]) dX3_upcoming_38 ?_
        refine V.if_ne C 101 dX3_upcoming_41 (by decide) ⟨by decide, by decide⟩ (fun h41 => ?_) (fun h41 => (by exact absurd h41 (by decide)))
        refine V.aload_n C dX3_upcoming_101 2 rfl ?_
        refine V.getf C (v := vi 1) 0 rfl rfl inX3 0 (by decide) fl_X3_56 (fun _ h => h) (by show some _ = some _; rw [ht1]) dX3_upcoming_102 ?_
        refine V.if_le C 112 dX3_upcoming_105 (by decide) ⟨by decide, by decide⟩ (fun h105 => (by exact absurd h105 (by decide))) (fun h105 => ?_)
        refine V.iconst C dX3_upcoming_108 ?_
        refine V.goto C 113 dX3_upcoming_109 (by decide) ?_
        rw [hQ]
        exact V.iret C dX3_upcoming_113 (by decide) (by decide) (⟨_, rfl, fun e9 => n10 (kDP_1 (Or.inr h9)) e9, _, rfl, by rw [ht1, kDP_1 (Or.inr h9)], hmi1⟩)
    · skip
      refine V.iconst C dX3_upcoming_12 ?_
      refine V.goto C 17 dX3_upcoming_13 (by decide) ?_
      refine V.putf C (v := vi 0) (ty := .int) 0 rfl rfl inX3 tyX3 tyX3_ok nmX3 0 (by decide) fl_X3_56 (fun _ h => h) rfl (by decide +kernel) rfl rfl (Nat.le_of_ble_eq_true rfl) dX3_upcoming_17 mput_0_0 ?_
      refine V.aload_n C dX3_upcoming_20 0 rfl ?_
      refine V.callV C (As := []) (st := []) (wr := []) kV_X3_97 (c_m_marks l D cy sa hfl ad (upM M 0 0 0) h td n q rq (hmi.t)) rfl 0 rfl rfl rfl rfl (Nat.le_of_ble_eq_true rfl) ⟨by decide, by decide⟩ ⟨by decide, by decide⟩ dX3_upcoming_21 (fun _ _ h => h.elim) (fun v10 w11 r12 => ?_)
      obtain ⟨rfl, M1, hw11, fr1, mk1⟩ := r12
      rw [hw11]
      have hmi1 : MI h td n q rq M1 := (hmi.t).same (fun k k2 k12 => fr1 k (by omega) (by omega) (by omega)) (by rw [fr1 0 (by decide) (by decide) (by decide)]) (by rw [fr1 0 (by decide) (by decide) (by decide)])
      have hR1 := hmi1.2.2.2.1
      have ht1 : M1 0 0 = 0 := by rw [fr1 0 (by decide) (by decide) (by decide)]; exact upM_s _ _ _ _
      show V D 6 A p l e (rmL 8 0 0) s m args below meth c Q 0 0 (ml cy ad M1) 24 [(0, .ref (ad 0)), (1, vi x), (2, vi z)] []
      refine V.iload_n C dX3_upcoming_24 2 rfl ?_
      refine V.istore_n C (lc2 := [(3, vi z), (0, .ref (ad 0)), (1, vi x), (2, vi z)]) dX3_upcoming_25 (by decide) rfl ?_
      refine V.iload_n C dX3_upcoming_26 2 rfl ?_
      refine V.istore C (lc2 := [(4, vi x), (3, vi z), (0, .ref (ad 0)), (1, vi x), (2, vi z)]) dX3_upcoming_27 (by decide) rfl ?_
      have loop29 : ∀ (fz : Nat) (d : Int) (lf : Int), (x ≤ d) → (d ≤ 720) → (0 ≤ lf ∧ lf ≤ z) → (dkB 5760 (U8 h q n) (8 * x) z = dkB 5760 (U8 h q n) (8 * d) lf) → ((720 - d).toNat < fz) → V D 6 A p l e (rmL 8 0 0) s m args below meth c Q 0 0 (ml cy ad M1) 29 [(4, vi d), (3, vi lf), (0, .ref (ad 0)), (1, vi x), (2, vi z)] [] := by
        intro fz
        induction fz with
        | zero => intro d lf e0 e1 e2 e3 hf; exact absurd hf (Nat.not_lt_zero _)
        | succ fz ih29 =>
          intro d lf e0 e1 e2 e3 hf29
          refine V.iload C dX3_upcoming_29 0 rfl ?_
          refine V.sipush C dX3_upcoming_31 (by decide) ?_
          refine V.icmp_ge C 101 dX3_upcoming_34 (by decide) ⟨by omega, by omega⟩ ⟨by decide, by decide⟩ (fun h34 => ?_) (fun h34 => ?_)
          · skip
            refine V.aload_n C dX3_upcoming_101 2 rfl ?_
            refine V.getf C (v := vi 0) 0 rfl rfl inX3 0 (by decide) fl_X3_56 (fun _ h => h) (by show some _ = some _; rw [ht1]) dX3_upcoming_102 ?_
            refine V.if_le C 112 dX3_upcoming_105 (by decide) ⟨by decide, by decide⟩ (fun h105 => ?_) (fun h105 => (by exact absurd h105 (by decide)))
            refine V.iconst C dX3_upcoming_112 ?_
            rw [hQ]
            exact V.iret C dX3_upcoming_113 (by decide) (by decide) (⟨_, rfl, fun _ => by rw [upc, e3, dkB_end (by omega), if_pos rfl], _, rfl, by rw [ht1, kDP_t h5 (by omega)], hmi1⟩)
          · skip
            refine V.aload_n C dX3_upcoming_37 2 rfl ?_
            refine V.getf C (v := vi 0) 0 rfl rfl inX3 0 (by decide) fl_X3_56 (fun _ h => h) (by show some _ = some _; rw [ht1]) dX3_upcoming_38 ?_
            refine V.if_ne C 101 dX3_upcoming_41 (by decide) ⟨by decide, by decide⟩ (fun h41 => (by exact absurd h41 (by decide))) (fun h41 => ?_)
            refine V.iconst C dX3_upcoming_44 ?_
            refine V.istore C (lc2 := [(5, vi 0), (4, vi d), (3, vi lf), (0, .ref (ad 0)), (1, vi x), (2, vi z)]) dX3_upcoming_45 (by decide) rfl ?_
            have loop47 : ∀ (fz : Nat) (i : Int) (lg : Int), (0 ≤ i) → (i ≤ (n : Int)) → (0 ≤ lg ∧ lg ≤ z) → (dkB 5760 (U8 h q n) (8 * x) z = dkB 5760 (U8 h q n) (8 * d + i) lg) → (((n : Int) - i).toNat < fz) → V D 6 A p l e (rmL 8 0 0) s m args below meth c Q 0 0 (ml cy ad M1) 47 [(5, vi i), (4, vi d), (3, vi lg), (0, .ref (ad 0)), (1, vi x), (2, vi z)] [] := by
              intro fz
              induction fz with
              | zero => intro i lg f0 f1 f2 f3 hf; exact absurd hf (Nat.not_lt_zero _)
              | succ fz ih47 =>
                intro i lg f0 f1 f2 f3 hf47
                refine V.iload C dX3_upcoming_47 0 rfl ?_
                refine V.aload_n C dX3_upcoming_49 3 rfl ?_
                refine V.getf C (v := vi (n : Int)) 0 rfl rfl inX3 3 (by decide) fl_X3_64 (fun _ h => h) (by show some _ = some _; rw [hmi1.2.2.1.1]) dX3_upcoming_50 ?_
                refine V.icmp_ge C 95 dX3_upcoming_53 (by decide) ⟨by omega, by omega⟩ ⟨by omega, by omega⟩ (fun h53 => ?_) (fun h53 => ?_)
                · skip
                  refine V.iinc C (lc2 := [(4, vi (d + 1)), (5, vi i), (3, vi lg), (0, .ref (ad 0)), (1, vi x), (2, vi z)]) dX3_upcoming_95 1 rfl (by decide) rfl ?_
                  refine V.goto C 29 dX3_upcoming_98 (by decide) ?_
                  exact V.sub [0, 2, 3, 4, 5] rfl (ih29 (d + 1) lg (by omega) (by omega) (by omega) (by rw [f3, dkB_skip (b := 8 * (d + 1)) (fun t t0 t1 => U8_off (d := d) (by omega) t1) (by omega) (by omega)]) (by omega))
                · skip
                  refine V.aload_n C dX3_upcoming_56 3 rfl ?_
                  refine V.getf C (v := .ref (ad 13)) 0 rfl rfl inX3 13 (by decide) fl_X3_41 (fun _ h => h) rfl dX3_upcoming_57 ?_
                  refine V.sipush C dX3_upcoming_60 (by decide) ?_
                  refine V.iload C dX3_upcoming_63 0 rfl ?_
                  refine V.imul C dX3_upcoming_65 ?_
                  refine V.iload C dX3_upcoming_66 1 rfl ?_
                  refine V.iadd C dX3_upcoming_68 ?_
                  have u8 : U8 h q n (8 * d + i) = dueR h (q i.toNat) d := by have := U8_at (h := h) (q := q) (n := n) (r := i.toNat) (d := d) (by omega) hn8; rwa [show ((i.toNat : Nat) : Int) = i by omega] at this
                  refine V.zald C (v := bI (dueR h (q i.toNat) d)) 11 rfl (by omega) (by omega) (by decide) (ld_ar (by omega) ((mk1 i f0 (by omega)).1 d (by omega) (by omega))) dX3_upcoming_69 ?_
                  refine V.if_eqB C 89 dX3_upcoming_70 (by decide) (fun h70 => ?_) (fun h70 => ?_)
                  · skip
                    refine V.iinc C (lc2 := [(5, vi (i + 1)), (4, vi d), (3, vi lg), (0, .ref (ad 0)), (1, vi x), (2, vi z)]) dX3_upcoming_89 0 rfl (by decide) rfl ?_
                    refine V.goto C 47 dX3_upcoming_92 (by decide) ?_
                    exact ih47 (i + 1) lg (by omega) (by omega) (by omega) (by rw [f3, dkB_at (by omega), u8, h70, if_neg (by decide)]; rw [show 8 * d + i + 1 = 8 * d + (i + 1) by omega]) (by omega)
                  · skip
                    refine V.iload_n C dX3_upcoming_73 2 rfl ?_
                    refine V.if_ne C 86 dX3_upcoming_74 (by decide) ⟨by omega, by omega⟩ (fun h74 => ?_) (fun h74 => ?_)
                    · skip
                      refine V.iinc C (lc2 := [(3, vi (lg + (-1))), (5, vi i), (4, vi d), (0, .ref (ad 0)), (1, vi x), (2, vi z)]) dX3_upcoming_86 2 rfl (by decide) rfl ?_
                      refine V.iinc C (lc2 := [(5, vi (i + 1)), (3, vi (lg + (-1))), (4, vi d), (0, .ref (ad 0)), (1, vi x), (2, vi z)]) dX3_upcoming_89 1 rfl (by decide) rfl ?_
                      refine V.goto C 47 dX3_upcoming_92 (by decide) ?_
                      exact V.sub [0, 2, 1, 3, 4, 5] rfl (ih47 (i + 1) (lg + (-1)) (by omega) (by omega) (by omega) (by rw [f3, dkB_at (by omega), u8, h70, if_pos rfl, if_neg h74]; rw [show 8 * d + i + 1 = 8 * d + (i + 1) by omega]; rfl) (by omega))
                    · skip
                      refine V.bipush C dX3_upcoming_77 (by decide) ?_
                      refine V.iload C dX3_upcoming_79 1 rfl ?_
                      refine V.imul C dX3_upcoming_81 ?_
                      refine V.iload C dX3_upcoming_82 0 rfl ?_
                      refine V.iadd C dX3_upcoming_84 ?_
                      rw [hQ]
                      exact V.iret C dX3_upcoming_85 (by decide) (by decide) (⟨_, rfl, fun _ => by rw [upc, f3, dkB_at (by omega), u8, if_pos h70, if_pos h74, if_neg (by omega)]; omega, _, rfl, by rw [ht1, kDP_t h5 (by omega)], hmi1⟩)
            exact loop47 _ 0 lf (by omega) (by omega) e2 (by rw [e3, Int.add_zero]) (Nat.lt_succ_self _)
      exact loop29 _ x z (by omega) (by omega) (by omega) rfl (Nat.lt_succ_self _)
set_option maxHeartbeats 4000000 in
set_option maxRecDepth 100000 in
theorem c_m_overdue (l : Launch) (D : va_G) (cy : Nat → ClassId) (sa : Nat → Addr) (hfl : l.stackTraces = false) (ad : Nat → Nat) (M : Nat → Int → Int) (h : Int → Bool) (td : Int) (n : Nat) (q : Nat → Nat → Int) (rq : Nat → Nat) (hmi : MI h td n q rq M) : Ct l D cy sa yX3_overdue cX3_overdue 4 (some .int) 8 0 0 (ml cy ad M) [.ref (ad 0)] (fun v ws2 => v = some (vi (sumN (late h q td) n)) ∧ ∃ M2, ws2 = ml cy ad M2 ∧ MI h td n q rq M2) no_x := by
  refine Ct.of (own := RX3) (lc := [(0, .ref (ad 0))]) (by decide +kernel) hfl (Nat.le_of_ble_eq_true rfl) rfl rfl ?_
  intro p e s m args below meth c A C hex hnm
  generalize hQ : vx_MQ below (Qo D (fun v ws2 => v = some (vi (sumN (late h q td) n)) ∧ ∃ M2, ws2 = ml cy ad M2 ∧ MI h td n q rq M2) A) (Xo D no_x A) args s 0 0 A = Q
  replace hQ := hQ.symm
  obtain ⟨hch, ⟨htd, td0, td1⟩, ⟨hmn, hn8⟩, hR, hZ, hQ12⟩ := id hmi
  refine V.aload_n C dX3_overdue_0 0 rfl ?_
  refine V.iconst C dX3_overdue_1 ?_
  refine V.putf C (v := vi 0) (ty := .int) 0 rfl rfl inX3 tyX3 tyX3_ok nmX3 0 (by decide) fl_X3_56 (fun _ h => h) rfl (by decide +kernel) rfl rfl (Nat.le_of_ble_eq_true rfl) dX3_overdue_2 mput_0_0 ?_
  refine V.aload_n C dX3_overdue_5 0 rfl ?_
  refine V.callV C (As := []) (st := []) (wr := []) kV_X3_97 (c_m_marks l D cy sa hfl ad (upM M 0 0 0) h td n q rq (hmi.t)) rfl 0 rfl rfl rfl rfl (Nat.le_of_ble_eq_true rfl) ⟨by decide, by decide⟩ ⟨by decide, by decide⟩ dX3_overdue_6 (fun _ _ h => h.elim) (fun v1 w2 r3 => ?_)
  obtain ⟨rfl, M1, hw2, fr1, mk1⟩ := r3
  rw [hw2]
  have hmi1 : MI h td n q rq M1 := (hmi.t).same (fun k k2 k12 => fr1 k (by omega) (by omega) (by omega)) (by rw [fr1 0 (by decide) (by decide) (by decide)]) (by rw [fr1 0 (by decide) (by decide) (by decide)])
  have hR1 := hmi1.2.2.2.1
  have ht1 : M1 0 0 = 0 := by rw [fr1 0 (by decide) (by decide) (by decide)]; exact upM_s _ _ _ _
  show V D 4 A p l e (rmL 8 0 0) s m args below meth c Q 0 0 (ml cy ad M1) 9 [(0, .ref (ad 0))] []
  refine V.iconst C dX3_overdue_9 ?_
  refine V.istore_n C (lc2 := [(1, vi 0), (0, .ref (ad 0))]) dX3_overdue_10 (by decide) rfl ?_
  refine V.iconst C dX3_overdue_11 ?_
  refine V.istore_n C (lc2 := [(2, vi 0), (1, vi 0), (0, .ref (ad 0))]) dX3_overdue_12 (by decide) rfl ?_
  have loop13 : ∀ (fz : Nat) (i : Int) (b : Int), (0 ≤ i) → (i ≤ (n : Int)) → (b = sumN (late h q td) i.toNat) → (((n : Int) - i).toNat < fz) → V D 4 A p l e (rmL 8 0 0) s m args below meth c Q 0 0 (ml cy ad M1) 13 [(2, vi i), (1, vi b), (0, .ref (ad 0))] [] := by
    intro fz
    induction fz with
    | zero => intro i b e0 e1 e2 hf; exact absurd hf (Nat.not_lt_zero _)
    | succ fz ih13 =>
      intro i b e0 e1 e2 hf13
      refine V.iload_n C dX3_overdue_13 0 rfl ?_
      refine V.aload_n C dX3_overdue_14 2 rfl ?_
      refine V.getf C (v := vi (n : Int)) 0 rfl rfl inX3 3 (by decide) fl_X3_64 (fun _ h => h) (by show some _ = some _; rw [hmi1.2.2.1.1]) dX3_overdue_15 ?_
      refine V.icmp_ge C 56 dX3_overdue_18 (by decide) ⟨by omega, by omega⟩ ⟨by omega, by omega⟩ (fun h18 => ?_) (fun h18 => ?_)
      · skip
        refine V.iload_n C dX3_overdue_56 1 rfl ?_
        rw [hQ]
        exact V.iret C dX3_overdue_57 (by decide) (by decide) (⟨ri (by rw [e2, show i.toNat = n by omega]), _, rfl, hmi1⟩)
      · skip
        refine V.aload_n C dX3_overdue_21 2 rfl ?_
        refine V.iload_n C dX3_overdue_22 0 rfl ?_
        refine V.aload_n C dX3_overdue_23 2 rfl ?_
        refine V.getf C (v := vi td) 0 rfl rfl inX3 1 (by decide) fl_X3_81 (fun _ h => h) (by show some _ = some _; rw [hmi1.2.1.1]) dX3_overdue_24 ?_
        refine V.callV C (As := [vi i, vi td]) (st := []) (wr := []) kV_X3_103 (c_m_countBefore l D cy sa hfl ad M1 h td n q rq (hmi1) (mk1) i (by omega) (by omega) td (by omega) (by omega)) rfl 0 rfl rfl rfl rfl (Nat.le_of_ble_eq_true rfl) ⟨by decide, by decide⟩ ⟨by decide, by decide⟩ dX3_overdue_27 (fun _ _ h => h.elim) (fun v4 w5 r6 => ?_)
        obtain ⟨rfl, hw5⟩ := r6
        rw [hw5]
        show V D 4 A p l e (rmL 8 0 0) s m args below meth c Q 0 0 (ml cy ad M1) 30 [(2, vi i), (1, vi b), (0, .ref (ad 0))] [vi (ct (dueR h (q (i).toNat)) 0 td)]
        have cr := ct_rng (dueR h (q i.toNat)) 0 td td0
        have p8 := (hR i e0 (by omega)).2.2.2.2.2.2.2.2.2.1
        refine V.aload_n C dX3_overdue_30 2 rfl ?_
        refine V.getf C (v := .ref (ad 10)) 0 rfl rfl inX3 10 (by decide) fl_X3_32 (fun _ h => h) rfl dX3_overdue_31 ?_
        refine V.iload_n C dX3_overdue_34 0 rfl ?_
        refine V.iald C (v := q (i).toNat 8) 8 rfl (by omega) (by omega) (by decide) (ld_ar (by omega) ((hR1 _ (e0) (by omega)).1.2.2.2.2.2.2.1)) dX3_overdue_35 ?_
        refine V.isub C dX3_overdue_36 ?_
        refine V.istore_n C (lc2 := [(3, vi ((ct (dueR h (q (i).toNat)) 0 td) - (q (i).toNat 8))), (2, vi i), (1, vi b), (0, .ref (ad 0))]) dX3_overdue_37 (by decide) rfl ?_
        refine V.iload_n C dX3_overdue_38 2 rfl ?_
        refine V.iload_n C dX3_overdue_39 0 rfl ?_
        refine V.if_le C 47 dX3_overdue_40 (by decide) ⟨by omega, by omega⟩ (fun h40 => ?_) (fun h40 => ?_)
        · skip
          refine V.iconst C dX3_overdue_47 ?_
          refine V.iadd C dX3_overdue_48 ?_
          refine V.istore_n C (lc2 := [(1, vi (b + 0)), (3, vi ((ct (dueR h (q (i).toNat)) 0 td) - (q (i).toNat 8))), (2, vi i), (0, .ref (ad 0))]) dX3_overdue_49 (by decide) rfl ?_
          refine V.iinc C (lc2 := [(2, vi (i + 1)), (1, vi (b + 0)), (3, vi ((ct (dueR h (q (i).toNat)) 0 td) - (q (i).toNat 8))), (0, .ref (ad 0))]) dX3_overdue_50 2 rfl (by decide) rfl ?_
          refine V.goto C 13 dX3_overdue_53 (by decide) ?_
          exact V.sub [0, 1, 3] rfl (ih13 (i + 1) (b + 0) (by omega) (by omega) (by rw [e2, show (i + 1).toNat = i.toNat + 1 by omega]; simp only [sumN, late]; rw [if_neg (by omega)]) (by omega))
        · skip
          refine V.iload_n C dX3_overdue_43 0 rfl ?_
          refine V.goto C 48 dX3_overdue_44 (by decide) ?_
          refine V.iadd C dX3_overdue_48 ?_
          refine V.istore_n C (lc2 := [(1, vi (b + ((ct (dueR h (q (i).toNat)) 0 td) - (q (i).toNat 8)))), (3, vi ((ct (dueR h (q (i).toNat)) 0 td) - (q (i).toNat 8))), (2, vi i), (0, .ref (ad 0))]) dX3_overdue_49 (by decide) rfl ?_
          refine V.iinc C (lc2 := [(2, vi (i + 1)), (1, vi (b + ((ct (dueR h (q (i).toNat)) 0 td) - (q (i).toNat 8)))), (3, vi ((ct (dueR h (q (i).toNat)) 0 td) - (q (i).toNat 8))), (0, .ref (ad 0))]) dX3_overdue_50 2 rfl (by decide) rfl ?_
          refine V.goto C 13 dX3_overdue_53 (by decide) ?_
          exact V.sub [0, 1, 3] rfl (ih13 (i + 1) (b + ((ct (dueR h (q (i).toNat)) 0 td) - (q (i).toNat 8))) (by omega) (by omega) (by rw [e2, show (i + 1).toNat = i.toNat + 1 by omega]; simp only [sumN, late]; rw [if_pos (by omega)]) (by omega))
  exact loop13 _ 0 0 (by omega) (by omega) rfl (Nat.lt_succ_self _)
