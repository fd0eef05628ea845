set_option maxHeartbeats 4000000 in
set_option maxRecDepth 100000 in
theorem c_m_in (l : Launch) (D : va_G) (cy : Nat → ClassId) (sa : Nat → Addr) (hfl : l.stackTraces = false) (ws : va_W) (x a b : Int) (hx : inR x) (ha : inR a) (hb : inR b) : Ct l D cy sa yX3_in cX3_in 3 (some .boolean) 1 0 0 ws [vi x, vi a, vi b] (fun v ws2 => v = some (vi (bI (inB x a b))) ∧ ws2 = ws) no_x := by
  refine Ct.of (own := RX3) (lc := [(0, vi x), (1, vi a), (2, vi b)]) (by decide +kernel) hfl (Nat.le_of_ble_eq_true rfl) rfl rfl ?_
  intro p e s m args below meth c A C hex hnm
  generalize hQ : vx_MQ below (Qo D (fun v ws2 => v = some (vi (bI (inB x a b))) ∧ ws2 = ws) A) (Xo D no_x A) args s 0 0 A = Q
  replace hQ := hQ.symm
  obtain ⟨hxl, hxr⟩ := hx
  obtain ⟨hal, har⟩ := ha
  obtain ⟨hbl, hbr⟩ := hb
  refine V.iload_n C dX3_in_0 0 rfl ?_
  refine V.iload_n C dX3_in_1 1 rfl ?_
  refine V.icmp_lt C 14 dX3_in_2 (by decide) ⟨by omega, by omega⟩ ⟨by omega, by omega⟩ (fun h2 => ?_) (fun h2 => ?_)
  · skip
    refine V.iconst C dX3_in_14 ?_
    show V D 3 A p l e (rmL 1 0 0) s m args below meth c Q 0 0 ws 15 [(0, vi x), (1, vi a), (2, vi b)] [vi (bI false)]
    rw [hQ]
    exact V.zret C dX3_in_15 (by decide) (by decide) (⟨rb (by rw [eq_comm, inB_f]; omega), rfl⟩)
  · skip
    refine V.iload_n C dX3_in_5 0 rfl ?_
    refine V.iload_n C dX3_in_6 2 rfl ?_
    refine V.icmp_gt C 14 dX3_in_7 (by decide) ⟨by omega, by omega⟩ ⟨by omega, by omega⟩ (fun h7 => ?_) (fun h7 => ?_)
    · skip
      refine V.iconst C dX3_in_14 ?_
      show V D 3 A p l e (rmL 1 0 0) s m args below meth c Q 0 0 ws 15 [(0, vi x), (1, vi a), (2, vi b)] [vi (bI false)]
      rw [hQ]
      exact V.zret C dX3_in_15 (by decide) (by decide) (⟨rb (by rw [eq_comm, inB_f]; omega), rfl⟩)
    · skip
      refine V.iconst C dX3_in_10 ?_
      refine V.goto C 15 dX3_in_11 (by decide) ?_
      show V D 3 A p l e (rmL 1 0 0) s m args below meth c Q 0 0 ws 15 [(0, vi x), (1, vi a), (2, vi b)] [vi (bI true)]
      rw [hQ]
      exact V.zret C dX3_in_15 (by decide) (by decide) (⟨rb (by rw [eq_comm, inB_iff]; exact ⟨by omega, by omega⟩), rfl⟩)
theorem inB_dy (x : Int) : inB x 0 719 = isDy x := by
  unfold inB isDy
  congr 1
  exact decide_eq_decide.mpr (by omega)
theorem inB_rl (n : Nat) (x : Int) : inB x 0 ((n : Int) - 1) = isR n x := by
  unfold inB isR
  congr 1
  exact decide_eq_decide.mpr (by omega)
set_option maxHeartbeats 4000000 in
set_option maxRecDepth 100000 in
theorem c_m_isDay (l : Launch) (D : va_G) (cy : Nat → ClassId) (sa : Nat → Addr) (hfl : l.stackTraces = false) (ws : va_W) (x : Int) (hx : inR x) : Ct l D cy sa yX3_isDay cX3_isDay 1 (some .boolean) 2 0 0 ws [vi x] (fun v ws2 => v = some (vi (bI (isDy x))) ∧ ws2 = ws) no_x := by
  refine Ct.of (own := RX3) (lc := [(0, vi x)]) (by decide +kernel) hfl (Nat.le_of_ble_eq_true rfl) rfl rfl ?_
  intro p e s m args below meth c A C hex hnm
  generalize hQ : vx_MQ below (Qo D (fun v ws2 => v = some (vi (bI (isDy x))) ∧ ws2 = ws) A) (Xo D no_x A) args s 0 0 A = Q
  replace hQ := hQ.symm
  obtain ⟨hxl, hxr⟩ := hx
  refine V.iload_n C dX3_isDay_0 0 rfl ?_
  refine V.iconst C dX3_isDay_1 ?_
  refine V.sipush C dX3_isDay_2 (by decide) ?_
  refine V.callS C (As := [vi x, vi 0, vi 719]) (st := []) (wr := []) kS_X3_60 (c_m_in l D cy sa hfl _ x 0 719 ⟨by omega, by omega⟩ ⟨by decide, by decide⟩ ⟨by decide, by decide⟩) rfl rfl rfl (Nat.le_of_ble_eq_true rfl) ⟨by decide, by decide⟩ ⟨by decide, by decide⟩ dX3_isDay_5 (fun _ _ h => h.elim) (fun v1 w2 r3 => ?_)
  obtain ⟨rfl, hw2⟩ := r3
  rw [hw2]
  show V D 1 A p l e (rmL 2 0 0) s m args below meth c Q 0 0 ws 8 [(0, vi x)] [vi (bI (inB x 0 719))]
  rw [hQ]
  exact V.zret C dX3_isDay_8 (by decide) (by decide) (⟨rb (inB_dy x), rfl⟩)
set_option maxHeartbeats 4000000 in
set_option maxRecDepth 100000 in
theorem c_m_isRule (l : Launch) (D : va_G) (cy : Nat → ClassId) (sa : Nat → Addr) (hfl : l.stackTraces = false) (ad : Nat → Nat) (M : Nat → Int → Int) (n : Nat) (hmn : M 0 3 = (n : Int)) (hn8 : n ≤ 8) (x : Int) (hx : inR x) : Ct l D cy sa yX3_isRule cX3_isRule 2 (some .boolean) 2 0 0 (ml cy ad M) [.ref (ad 0), vi x] (fun v ws2 => v = some (vi (bI (isR n x))) ∧ ws2 = ml cy ad M) no_x := by
  refine Ct.of (own := RX3) (lc := [(0, .ref (ad 0)), (1, vi x)]) (by decide +kernel) hfl (Nat.le_of_ble_eq_true rfl) rfl rfl ?_
  intro p e s m args below meth c A C hex hnm
  generalize hQ : vx_MQ below (Qo D (fun v ws2 => v = some (vi (bI (isR n x))) ∧ ws2 = ml cy ad M) A) (Xo D no_x A) args s 0 0 A = Q
  replace hQ := hQ.symm
  obtain ⟨hxl, hxr⟩ := hx
  refine V.iload_n C dX3_isRule_0 1 rfl ?_
  refine V.iconst C dX3_isRule_1 ?_
  refine V.aload_n C dX3_isRule_2 0 rfl ?_
  refine V.getf C (v := vi (n : Int)) 0 rfl rfl inX3 3 (by decide) fl_X3_64 (fun _ h => h) (by show some _ = some _; rw [hmn]) dX3_isRule_3 ?_
  refine V.iconst C dX3_isRule_6 ?_
  refine V.isub C dX3_isRule_7 ?_
  refine V.callS C (As := [vi x, vi 0, vi ((n : Int) - 1)]) (st := []) (wr := []) kS_X3_60 (c_m_in l D cy sa hfl _ x 0 ((n : Int) - 1) ⟨by omega, by omega⟩ ⟨by decide, by decide⟩ ⟨by omega, by omega⟩) rfl rfl rfl (Nat.le_of_ble_eq_true rfl) ⟨by decide, by decide⟩ ⟨by decide, by decide⟩ dX3_isRule_8 (fun _ _ h => h.elim) (fun v1 w2 r3 => ?_)
  obtain ⟨rfl, hw2⟩ := r3
  rw [hw2]
  show V D 2 A p l e (rmL 2 0 0) s m args below meth c Q 0 0 (ml cy ad M) 11 [(0, .ref (ad 0)), (1, vi x)] [vi (bI (inB x 0 ((n : Int) - 1)))]
  rw [hQ]
  exact V.zret C dX3_isRule_11 (by decide) (by decide) (⟨rb (inB_rl n x), rfl⟩)
set_option maxHeartbeats 4000000 in
set_option maxRecDepth 100000 in
theorem c_m_works (l : Launch) (D : va_G) (cy : Nat → ClassId) (sa : Nat → Addr) (hfl : l.stackTraces = false) (ad : Nat → Nat) (M : Nat → Int → Int) (h : Int → Bool) (hh : CH h M) (d : Int) (h0 : 0 ≤ d) (h1 : d < 720) : Ct l D cy sa yX3_works cX3_works 2 (some .boolean) 1 0 0 (ml cy ad M) [.ref (ad 0), vi d] (fun v ws2 => v = some (vi (bI (wk h d))) ∧ ws2 = ml cy ad M) no_x := by
  refine Ct.of (own := RX3) (lc := [(0, .ref (ad 0)), (1, vi d)]) (by decide +kernel) hfl (Nat.le_of_ble_eq_true rfl) rfl rfl ?_
  intro p e s m args below meth c A C hex hnm
  generalize hQ : vx_MQ below (Qo D (fun v ws2 => v = some (vi (bI (wk h d))) ∧ ws2 = ml cy ad M) A) (Xo D no_x A) args s 0 0 A = Q
  replace hQ := hQ.symm
  skip
  refine V.iload_n C dX3_works_0 1 rfl ?_
  refine V.bipush C dX3_works_1 (by decide) ?_
  refine V.irem C dX3_works_3 ⟨by omega, by omega⟩ (by omega) ⟨by omega, by omega⟩ (by omega) ?_
  refine V.iconst C dX3_works_4 ?_
  refine V.icmp_ge C 21 dX3_works_5 (by decide) ⟨by omega, by omega⟩ ⟨by decide, by decide⟩ (fun h5 => ?_) (fun h5 => ?_)
  · skip
    refine V.iconst C dX3_works_21 ?_
    show V D 2 A p l e (rmL 1 0 0) s m args below meth c Q 0 0 (ml cy ad M) 22 [(0, .ref (ad 0)), (1, vi d)] [vi (bI false)]
    rw [hQ]
    exact V.zret C dX3_works_22 (by decide) (by decide) (⟨rb (by rw [wk, decide_eq_false (by omega)]; rfl), rfl⟩)
  · skip
    refine V.aload_n C dX3_works_8 0 rfl ?_
    refine V.getf C (v := .ref (ad 2)) 0 rfl rfl inX3 2 (by decide) fl_X3_7 (fun _ h => h) rfl dX3_works_9 ?_
    refine V.iload_n C dX3_works_12 1 rfl ?_
    refine V.zald C (v := bI (h d)) 1 rfl (by omega) (by omega) (by decide) (ld_ar (by omega) (hh d h0 h1)) dX3_works_13 ?_
    refine V.if_neB C 21 dX3_works_14 (by decide) (fun h14 => ?_) (fun h14 => ?_)
    · skip
      refine V.iconst C dX3_works_21 ?_
      show V D 2 A p l e (rmL 1 0 0) s m args below meth c Q 0 0 (ml cy ad M) 22 [(0, .ref (ad 0)), (1, vi d)] [vi (bI false)]
      rw [hQ]
      exact V.zret C dX3_works_22 (by decide) (by decide) (⟨rb (by rw [wk, h14]; simp), rfl⟩)
    · skip
      refine V.iconst C dX3_works_17 ?_
      refine V.goto C 22 dX3_works_18 (by decide) ?_
      show V D 2 A p l e (rmL 1 0 0) s m args below meth c Q 0 0 (ml cy ad M) 22 [(0, .ref (ad 0)), (1, vi d)] [vi (bI true)]
      rw [hQ]
      exact V.zret C dX3_works_22 (by decide) (by decide) (⟨rb (by rw [wk, decide_eq_true (by omega), h14]; rfl), rfl⟩)
set_option maxHeartbeats 4000000 in
set_option maxRecDepth 100000 in
theorem c_m_workingFrom (l : Launch) (D : va_G) (cy : Nat → ClassId) (sa : Nat → Addr) (hfl : l.stackTraces = false) (ad : Nat → Nat) (M : Nat → Int → Int) (h : Int → Bool) (hh : CH h M) (x z : Int) (h0 : 0 ≤ x) (h0b : x < 720) (hz0 : 0 ≤ z) (h1 : z < 720) : Ct l D cy sa yX3_workingFrom cX3_workingFrom 5 (some .int) 2 0 0 (ml cy ad M) [.ref (ad 0), vi x, vi z] (fun v ws2 => v = some (vi (ct (wk h) x (z + 1))) ∧ ws2 = ml cy ad M) no_x := by
  refine Ct.of (own := RX3) (lc := [(0, .ref (ad 0)), (1, vi x), (2, vi z)]) (by decide +kernel) hfl (Nat.le_of_ble_eq_true rfl) rfl rfl ?_
  intro p e s m args below meth c A C hex hnm
  generalize hQ : vx_MQ below (Qo D (fun v ws2 => v = some (vi (ct (wk h) x (z + 1))) ∧ ws2 = ml cy ad M) A) (Xo D no_x A) args s 0 0 A = Q
  replace hQ := hQ.symm
  skip
  refine V.iconst C dX3_workingFrom_0 ?_
  refine V.istore_n C (lc2 := [(3, vi 0), (0, .ref (ad 0)), (1, vi x), (2, vi z)]) dX3_workingFrom_1 (by decide) rfl ?_
  refine V.iload_n C dX3_workingFrom_2 2 rfl ?_
  refine V.istore C (lc2 := [(4, vi x), (3, vi 0), (0, .ref (ad 0)), (1, vi x), (2, vi z)]) dX3_workingFrom_3 (by decide) rfl ?_
  have loop5 : ∀ (fz : Nat) (d : Int) (b : Int), (x ≤ d) → (d ≤ z + 1 ∨ d = x) → (b = ct (wk h) x d) → (0 ≤ b ∧ b ≤ d - x) → ((z + 1 - d).toNat < fz) → V D 5 A p l e (rmL 2 0 0) s m args below meth c Q 0 0 (ml cy ad M) 5 [(4, vi d), (3, vi b), (0, .ref (ad 0)), (1, vi x), (2, vi z)] [] := by
    intro fz
    induction fz with
    | zero => intro d b e0 e1 e2 e3 hf; exact absurd hf (Nat.not_lt_zero _)
    | succ fz ih5 =>
      intro d b e0 e1 e2 e3 hf5
      refine V.iload C dX3_workingFrom_5 0 rfl ?_
      refine V.iload_n C dX3_workingFrom_7 4 rfl ?_
      refine V.icmp_gt C 34 dX3_workingFrom_8 (by decide) ⟨by omega, by omega⟩ ⟨by omega, by omega⟩ (fun h8 => ?_) (fun h8 => ?_)
      · skip
        refine V.iload_n C dX3_workingFrom_34 1 rfl ?_
        rw [hQ]
        exact V.iret C dX3_workingFrom_35 (by decide) (by decide) (⟨ri (by rw [e2]; by_cases c : d = z + 1; (rw [c]); (rw [show d = x by omega, ct_self, ct, show (z + 1 - x).toNat = 0 by omega]; rfl)), rfl⟩)
      · skip
        refine V.iload_n C dX3_workingFrom_11 1 rfl ?_
        refine V.aload_n C dX3_workingFrom_12 2 rfl ?_
        refine V.iload C dX3_workingFrom_13 0 rfl ?_
        refine V.callV C (As := [vi d]) (st := [vi b]) (wr := []) kV_X3_71 (c_m_works l D cy sa hfl ad M h hh d (by omega) (by omega)) rfl 0 rfl rfl rfl rfl (Nat.le_of_ble_eq_true rfl) ⟨by decide, by decide⟩ ⟨by decide, by decide⟩ dX3_workingFrom_15 (fun _ _ h => h.elim) (fun v1 w2 r3 => ?_)
        obtain ⟨rfl, hw2⟩ := r3
        rw [hw2]
        show V D 5 A p l e (rmL 2 0 0) s m args below meth c Q 0 0 (ml cy ad M) 18 [(4, vi d), (3, vi b), (0, .ref (ad 0)), (1, vi x), (2, vi z)] [vi (bI (wk h d)), vi b]
        refine V.if_eqB C 25 dX3_workingFrom_18 (by decide) (fun h18 => ?_) (fun h18 => ?_)
        · skip
          refine V.iconst C dX3_workingFrom_25 ?_
          refine V.iadd C dX3_workingFrom_26 ?_
          refine V.istore_n C (lc2 := [(3, vi (b + 0)), (4, vi d), (0, .ref (ad 0)), (1, vi x), (2, vi z)]) dX3_workingFrom_27 (by decide) rfl ?_
          refine V.iinc C (lc2 := [(4, vi (d + 1)), (3, vi (b + 0)), (0, .ref (ad 0)), (1, vi x), (2, vi z)]) dX3_workingFrom_28 1 rfl (by decide) rfl ?_
          refine V.goto C 5 dX3_workingFrom_31 (by decide) ?_
          exact ih5 (d + 1) (b + 0) (by omega) (by omega) (by rw [ct_up e0, h18, e2]; simp [bI]) (by omega) (by omega)
        · skip
          refine V.iconst C dX3_workingFrom_21 ?_
          refine V.goto C 26 dX3_workingFrom_22 (by decide) ?_
          refine V.iadd C dX3_workingFrom_26 ?_
          refine V.istore_n C (lc2 := [(3, vi (b + 1)), (4, vi d), (0, .ref (ad 0)), (1, vi x), (2, vi z)]) dX3_workingFrom_27 (by decide) rfl ?_
          refine V.iinc C (lc2 := [(4, vi (d + 1)), (3, vi (b + 1)), (0, .ref (ad 0)), (1, vi x), (2, vi z)]) dX3_workingFrom_28 1 rfl (by decide) rfl ?_
          refine V.goto C 5 dX3_workingFrom_31 (by decide) ?_
          exact ih5 (d + 1) (b + 1) (by omega) (by omega) (by rw [ct_up e0, h18, e2]; simp [bI]) (by omega) (by omega)
  exact loop5 _ x 0 (by omega) (by omega) ((ct_self _ _).symm) (by omega) (Nat.lt_succ_self _)
set_option maxHeartbeats 4000000 in
set_option maxRecDepth 100000 in
theorem c_m_barsSpan (l : Launch) (D : va_G) (cy : Nat → ClassId) (sa : Nat → Addr) (hfl : l.stackTraces = false) (ws : va_W) (x z : Int) (hx : inR x) (hz : inR z) : Ct l D cy sa yX3_barsSpan cX3_barsSpan 2 (some .int) 3 0 0 ws [vi x, vi z] (fun v ws2 => v = some (vi (kSpan x z)) ∧ ws2 = ws) no_x := by
  refine Ct.of (own := RX3) (lc := [(0, vi x), (1, vi z)]) (by decide +kernel) hfl (Nat.le_of_ble_eq_true rfl) rfl rfl ?_
  intro p e s m args below meth c A C hex hnm
  generalize hQ : vx_MQ below (Qo D (fun v ws2 => v = some (vi (kSpan x z)) ∧ ws2 = ws) A) (Xo D no_x A) args s 0 0 A = Q
  replace hQ := hQ.symm
  obtain ⟨hxl, hxr⟩ := hx
  obtain ⟨hzl, hzr⟩ := hz
  refine V.iload_n C dX3_barsSpan_0 0 rfl ?_
  refine V.callS C (As := [vi x]) (st := []) (wr := []) kS_X3_67 (c_m_isDay l D cy sa hfl _ x ⟨by omega, by omega⟩) rfl rfl rfl (Nat.le_of_ble_eq_true rfl) ⟨by decide, by decide⟩ ⟨by decide, by decide⟩ dX3_barsSpan_1 (fun _ _ h => h.elim) (fun v1 w2 r3 => ?_)
  obtain ⟨rfl, hw2⟩ := r3
  rw [hw2]
  show V D 2 A p l e (rmL 3 0 0) s m args below meth c Q 0 0 ws 4 [(0, vi x), (1, vi z)] [vi (bI (isDy x))]
  refine V.if_eqB C 14 dX3_barsSpan_4 (by decide) (fun h4 => ?_) (fun h4 => ?_)
  · skip
    refine V.iconst C dX3_barsSpan_14 ?_
    refine V.goto C 28 dX3_barsSpan_15 (by decide) ?_
    rw [hQ]
    exact V.iret C dX3_barsSpan_28 (by decide) (by decide) (⟨ri (kSpan_1 (Or.inl h4)).symm, rfl⟩)
  · skip
    refine V.iload_n C dX3_barsSpan_7 1 rfl ?_
    refine V.callS C (As := [vi z]) (st := []) (wr := []) kS_X3_67 (c_m_isDay l D cy sa hfl _ z ⟨by omega, by omega⟩) rfl rfl rfl (Nat.le_of_ble_eq_true rfl) ⟨by decide, by decide⟩ ⟨by decide, by decide⟩ dX3_barsSpan_8 (fun _ _ h => h.elim) (fun v4 w5 r6 => ?_)
    obtain ⟨rfl, hw5⟩ := r6
    rw [hw5]
    show V D 2 A p l e (rmL 3 0 0) s m args below meth c Q 0 0 ws 11 [(0, vi x), (1, vi z)] [vi (bI (isDy z))]
    refine V.if_neB C 18 dX3_barsSpan_11 (by decide) (fun h11 => ?_) (fun h11 => ?_)
    · skip
      refine V.iload_n C dX3_barsSpan_18 1 rfl ?_
      refine V.iload_n C dX3_barsSpan_19 0 rfl ?_
      refine V.icmp_ge C 27 dX3_barsSpan_20 (by decide) ⟨by omega, by omega⟩ ⟨by omega, by omega⟩ (fun h20 => ?_) (fun h20 => ?_)
      · skip
        refine V.iconst C dX3_barsSpan_27 ?_
        rw [hQ]
        exact V.iret C dX3_barsSpan_28 (by decide) (by decide) (⟨ri (by rw [kSpan, if_pos ⟨h4, h11⟩, if_neg (by omega)]), rfl⟩)
      · skip
        refine V.iconst C dX3_barsSpan_23 ?_
        refine V.goto C 28 dX3_barsSpan_24 (by decide) ?_
        rw [hQ]
        exact V.iret C dX3_barsSpan_28 (by decide) (by decide) (⟨ri (kSpan_2 h4 h11 (by omega)).symm, rfl⟩)
    · skip
      refine V.iconst C dX3_barsSpan_14 ?_
      refine V.goto C 28 dX3_barsSpan_15 (by decide) ?_
      rw [hQ]
      exact V.iret C dX3_barsSpan_28 (by decide) (by decide) (⟨ri (kSpan_1 (Or.inr h11)).symm, rfl⟩)
