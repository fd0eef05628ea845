set_option maxHeartbeats 4000000 in
set_option maxRecDepth 100000 in
theorem c_isDueOn (l : Launch) (D : va_G) (cy : Nat → ClassId) (sa : Nat → Addr) (hfl : l.stackTraces = false) (ad : Nat → Nat) (n : Nat) (M : Nat → Int → Int) (i : Nat) (hi : i < n) (u : Int → Bool) (hd : ∀ d, 0 ≤ d → d < 720 → M (8 + 2 * i + 1) d = bI (u d)) (d : Int) (h0 : 0 ≤ d) (h1 : d < 720) : Ct l D cy sa yX1_isDueOn cX1_isDueOn 2 (some .boolean) 1 0 0 (cl cy (sa 100) ad n M) [.ref (ad (8 + 2 * i)), vi d] (fun v ws2 => v = some (vi (bI (u d))) ∧ ws2 = cl cy (sa 100) ad n M) no_x := by
  refine Ct.of (own := RX1) (lc := [(0, .ref (ad (8 + 2 * i))), (1, vi d)]) (by decide +kernel) hfl (Nat.le_of_ble_eq_true rfl) rfl rfl ?_
  intro p e s m args below meth c A C hex hnm
  generalize hQ : vx_MQ below (Qo D (fun v ws2 => v = some (vi (bI (u d))) ∧ ws2 = cl cy (sa 100) ad n M) A) (Xo D no_x A) args s 0 0 A = Q
  replace hQ := hQ.symm
  refine V.iload_n C dX1_isDueOn_0 1 rfl ?_
  refine V.callN C (As := [vi d]) (st := []) (wr := []) (by decide : (RX1, 59) ∈ xNest) (c_isDay l D cy sa hfl _ d ⟨by omega, by omega⟩) rfl rfl rfl (Nat.le_of_ble_eq_true rfl) ⟨by decide, by decide⟩ ⟨by decide, by decide⟩ dX1_isDueOn_1 (fun _ _ h => h.elim) (fun v1 w2 r3 => ?_)
  obtain ⟨rfl, rfl⟩ := r3
  show V D 2 A p l e (rmL 1 0 0) s m args below meth c Q 0 0 (cl cy (sa 100) ad n M) 4 [(0, .ref (ad (8 + 2 * i))), (1, vi d)] [vi (bI (isDy d))]
  refine V.if_eqB C 20 dX1_isDueOn_4 (by decide) (fun h4 => (by rw [isDy_t (by omega) (by omega)] at h4; exact absurd h4 (by decide))) (fun h4 => ?_)
  refine V.aload_n C dX1_isDueOn_7 0 rfl ?_
  refine V.getf C (v := .ref (ad (8 + 2 * i + 1))) (8 + 2 * i) (cl_r hi) rfl inX1 11 (by decide) fl_X1_27 (fun _ h => h) rfl dX1_isDueOn_8 ?_
  refine V.iload_n C dX1_isDueOn_11 1 rfl ?_
  refine V.zald C (v := bI (u d)) (8 + 2 * i + 1) (cl_d hi) (by omega) (by omega) (by decide) (ld_ar (by omega) (hd d h0 h1)) dX1_isDueOn_12 ?_
  refine V.if_eqB C 20 dX1_isDueOn_13 (by decide) (fun h13 => ?_) (fun h13 => ?_)
  · skip
    refine V.iconst C dX1_isDueOn_20 ?_
    show V D 2 A p l e (rmL 1 0 0) s m args below meth c Q 0 0 (cl cy (sa 100) ad n M) 21 [(0, .ref (ad (8 + 2 * i))), (1, vi d)] [vi (bI false)]
    rw [hQ]
    exact V.zret C dX1_isDueOn_21 (by decide) (by decide) (⟨rb (by rw [h13]), rfl⟩)
  · skip
    refine V.iconst C dX1_isDueOn_16 ?_
    refine V.goto C 21 dX1_isDueOn_17 (by decide) ?_
    show V D 2 A p l e (rmL 1 0 0) s m args below meth c Q 0 0 (cl cy (sa 100) ad n M) 21 [(0, .ref (ad (8 + 2 * i))), (1, vi d)] [vi (bI true)]
    rw [hQ]
    exact V.zret C dX1_isDueOn_21 (by decide) (by decide) (⟨rb (by rw [h13]), rfl⟩)
set_option maxHeartbeats 4000000 in
set_option maxRecDepth 100000 in
theorem c_dayOfDuty (l : Launch) (D : va_G) (cy : Nat → ClassId) (sa : Nat → Addr) (hfl : l.stackTraces = false) (ad : Nat → Nat) (n : Nat) (M : Nat → Int → Int) (i : Nat) (hi : i < n) (u : Int → Bool) (hd : ∀ d, 0 ≤ d → d < 720 → M (8 + 2 * i + 1) d = bI (u d)) (k : Int) (hk : inR k) : Ct l D cy sa yX1_dayOfDuty cX1_dayOfDuty 4 (some .int) 0 0 0 (cl cy (sa 100) ad n M) [.ref (ad (8 + 2 * i)), vi k] (fun v ws2 => v = some (vi (dk u 0 k)) ∧ ws2 = cl cy (sa 100) ad n M) no_x := by
  refine Ct.of (own := RX1) (lc := [(0, .ref (ad (8 + 2 * i))), (1, vi k)]) (by decide +kernel) hfl (Nat.le_of_ble_eq_true rfl) rfl rfl ?_
  intro p e s m args below meth c A C hex hnm
  generalize hQ : vx_MQ below (Qo D (fun v ws2 => v = some (vi (dk u 0 k)) ∧ ws2 = cl cy (sa 100) ad n M) A) (Xo D no_x A) args s 0 0 A = Q
  replace hQ := hQ.symm
  obtain ⟨hk1, hk2⟩ := hk
  refine V.iconst C dX1_dayOfDuty_0 ?_
  refine V.istore_n C (lc2 := [(2, vi 0), (0, .ref (ad (8 + 2 * i))), (1, vi k)]) dX1_dayOfDuty_1 (by decide) rfl ?_
  refine V.iconst C dX1_dayOfDuty_2 ?_
  refine V.istore_n C (lc2 := [(3, vi 0), (2, vi 0), (0, .ref (ad (8 + 2 * i))), (1, vi k)]) dX1_dayOfDuty_3 (by decide) rfl ?_
  have loop4 : ∀ (f : Nat) (d : Int) (b : Int), (0 ≤ d) → (d ≤ 720) → (0 ≤ b) → (b ≤ d) → (dk u 0 k = dk u d (k - b)) → ((720 - d).toNat < f) → V D 4 A p l e (rmL 0 0 0) s m args below meth c Q 0 0 (cl cy (sa 100) ad n M) 4 [(3, vi d), (2, vi b), (0, .ref (ad (8 + 2 * i))), (1, vi k)] [] := by
    intro f
    induction f with
    | zero => intro d b e0 e1 e2 e3 e4 hf; exact absurd hf (Nat.not_lt_zero _)
    | succ f ih4 =>
      intro d b e0 e1 e2 e3 e4 hf4
      refine V.iload_n C dX1_dayOfDuty_4 0 rfl ?_
      refine V.sipush C dX1_dayOfDuty_5 (by decide) ?_
      refine V.icmp_ge C 36 dX1_dayOfDuty_8 (by decide) ⟨by omega, by omega⟩ ⟨by decide, by decide⟩ (fun h8 => ?_) (fun h8 => ?_)
      · skip
        refine V.iconst C dX1_dayOfDuty_36 ?_
        rw [hQ]
        exact V.iret C dX1_dayOfDuty_37 (by decide) (by decide) (⟨ri (by rw [e4, dk_end (by omega)]), rfl⟩)
      · skip
        refine V.aload_n C dX1_dayOfDuty_11 2 rfl ?_
        refine V.getf C (v := .ref (ad (8 + 2 * i + 1))) (8 + 2 * i) (cl_r hi) rfl inX1 11 (by decide) fl_X1_27 (fun _ h => h) rfl dX1_dayOfDuty_12 ?_
        refine V.iload_n C dX1_dayOfDuty_15 0 rfl ?_
        refine V.zald C (v := bI (u d)) (8 + 2 * i + 1) (cl_d hi) (by omega) (by omega) (by decide) (ld_ar (by omega) (hd d e0 (by omega))) dX1_dayOfDuty_16 ?_
        refine V.if_eqB C 30 dX1_dayOfDuty_17 (by decide) (fun h17 => ?_) (fun h17 => ?_)
        · skip
          refine V.iinc C (lc2 := [(3, vi (d + 1)), (2, vi b), (0, .ref (ad (8 + 2 * i))), (1, vi k)]) dX1_dayOfDuty_30 0 rfl (by decide) rfl ?_
          refine V.goto C 4 dX1_dayOfDuty_33 (by decide) ?_
          exact ih4 (d + 1) b (by omega) (by omega) (by omega) (by omega) (by first | (rw [e4, dk_at (by omega), if_pos h17, if_neg (by omega)]; congr 1; omega) | (rw [e4, dk_at (by omega), h17]; simp)) (by omega)
        · skip
          refine V.iload_n C dX1_dayOfDuty_20 1 rfl ?_
          refine V.iload_n C dX1_dayOfDuty_21 3 rfl ?_
          refine V.icmp_ne C 27 dX1_dayOfDuty_22 (by decide) ⟨by omega, by omega⟩ ⟨by omega, by omega⟩ (fun h22 => ?_) (fun h22 => ?_)
          · skip
            refine V.iinc C (lc2 := [(2, vi (b + 1)), (3, vi d), (0, .ref (ad (8 + 2 * i))), (1, vi k)]) dX1_dayOfDuty_27 1 rfl (by decide) rfl ?_
            refine V.iinc C (lc2 := [(3, vi (d + 1)), (2, vi (b + 1)), (0, .ref (ad (8 + 2 * i))), (1, vi k)]) dX1_dayOfDuty_30 1 rfl (by decide) rfl ?_
            refine V.goto C 4 dX1_dayOfDuty_33 (by decide) ?_
            exact ih4 (d + 1) (b + 1) (by omega) (by omega) (by omega) (by omega) (by first | (rw [e4, dk_at (by omega), if_pos h17, if_neg (by omega)]; congr 1; omega) | (rw [e4, dk_at (by omega), h17]; simp)) (by omega)
          · skip
            refine V.iload_n C dX1_dayOfDuty_25 0 rfl ?_
            rw [hQ]
            exact V.iret C dX1_dayOfDuty_26 (by decide) (by decide) (⟨ri (by rw [e4, dk_at (by omega), if_pos h17, if_pos (by omega)]), rfl⟩)
  exact loop4 _ 0 0 (by omega) (by omega) (by omega) (by omega) (by rw [Int.sub_zero]) (Nat.lt_succ_self _)
set_option maxHeartbeats 4000000 in
set_option maxRecDepth 100000 in
theorem c_countDueBefore (l : Launch) (D : va_G) (cy : Nat → ClassId) (sa : Nat → Addr) (hfl : l.stackTraces = false) (ad : Nat → Nat) (n : Nat) (M : Nat → Int → Int) (i : Nat) (hi : i < n) (u : Int → Bool) (hd : ∀ d, 0 ≤ d → d < 720 → M (8 + 2 * i + 1) d = bI (u d)) (x : Int) (h0 : 0 ≤ x) (h1 : x ≤ 720) : Ct l D cy sa yX1_countDueBefore cX1_countDueBefore 4 (some .int) 2 0 0 (cl cy (sa 100) ad n M) [.ref (ad (8 + 2 * i)), vi x] (fun v ws2 => v = some (vi (ct u 0 x)) ∧ ws2 = cl cy (sa 100) ad n M) no_x := by
  refine Ct.of (own := RX1) (lc := [(0, .ref (ad (8 + 2 * i))), (1, vi x)]) (by decide +kernel) hfl (Nat.le_of_ble_eq_true rfl) rfl rfl ?_
  intro p e s m args below meth c A C hex hnm
  generalize hQ : vx_MQ below (Qo D (fun v ws2 => v = some (vi (ct u 0 x)) ∧ ws2 = cl cy (sa 100) ad n M) A) (Xo D no_x A) args s 0 0 A = Q
  replace hQ := hQ.symm
  refine V.iconst C dX1_countDueBefore_0 ?_
  refine V.istore_n C (lc2 := [(2, vi 0), (0, .ref (ad (8 + 2 * i))), (1, vi x)]) dX1_countDueBefore_1 (by decide) rfl ?_
  refine V.iconst C dX1_countDueBefore_2 ?_
  refine V.istore_n C (lc2 := [(3, vi 0), (2, vi 0), (0, .ref (ad (8 + 2 * i))), (1, vi x)]) dX1_countDueBefore_3 (by decide) rfl ?_
  have loop4 : ∀ (f : Nat) (d : Int) (b : Int), (0 ≤ d) → (d ≤ x) → (b = ct u 0 d) → ((x - d).toNat < f) → V D 4 A p l e (rmL 2 0 0) s m args below meth c Q 0 0 (cl cy (sa 100) ad n M) 4 [(3, vi d), (2, vi b), (0, .ref (ad (8 + 2 * i))), (1, vi x)] [] := by
    intro f
    induction f with
    | zero => intro d b e0 e1 e2 hf; exact absurd hf (Nat.not_lt_zero _)
    | succ f ih4 =>
      intro d b e0 e1 e2 hf4
      refine V.iload_n C dX1_countDueBefore_4 0 rfl ?_
      refine V.iload_n C dX1_countDueBefore_5 3 rfl ?_
      refine V.icmp_ge C 26 dX1_countDueBefore_6 (by decide) ⟨by omega, by omega⟩ ⟨by omega, by omega⟩ (fun h6 => ?_) (fun h6 => ?_)
      · skip
        refine V.iload_n C dX1_countDueBefore_26 1 rfl ?_
        rw [hQ]
        exact V.iret C dX1_countDueBefore_27 (by decide) (by decide) (⟨ri (by rw [e2]; congr 1; omega), rfl⟩)
      · skip
        refine V.aload_n C dX1_countDueBefore_9 2 rfl ?_
        refine V.iload_n C dX1_countDueBefore_10 0 rfl ?_
        refine V.callV C (As := [vi d]) (st := []) (wr := []) kV_X1_62 (c_isDueOn l D cy sa hfl ad n M i hi u hd d (by omega) (by omega)) rfl (8 + 2 * i) (cl_r hi) rfl rfl rfl (Nat.le_of_ble_eq_true rfl) ⟨by decide, by decide⟩ ⟨by decide, by decide⟩ dX1_countDueBefore_11 (fun _ _ h => h.elim) (fun v1 w2 r3 => ?_)
        obtain ⟨rfl, rfl⟩ := r3
        show V D 4 A p l e (rmL 2 0 0) s m args below meth c Q 0 0 (cl cy (sa 100) ad n M) 14 [(3, vi d), (2, vi b), (0, .ref (ad (8 + 2 * i))), (1, vi x)] [vi (bI (u d))]
        refine V.if_eqB C 20 dX1_countDueBefore_14 (by decide) (fun h14 => ?_) (fun h14 => ?_)
        · skip
          refine V.iinc C (lc2 := [(3, vi (d + 1)), (2, vi b), (0, .ref (ad (8 + 2 * i))), (1, vi x)]) dX1_countDueBefore_20 0 rfl (by decide) rfl ?_
          refine V.goto C 4 dX1_countDueBefore_23 (by decide) ?_
          exact ih4 (d + 1) b (by omega) (by omega) (by rw [ct_up e0, ← e2, h14]; simp [bI]) (by omega)
        · skip
          refine V.iinc C (lc2 := [(2, vi (b + 1)), (3, vi d), (0, .ref (ad (8 + 2 * i))), (1, vi x)]) dX1_countDueBefore_17 1 rfl (by decide) rfl ?_
          refine V.iinc C (lc2 := [(3, vi (d + 1)), (2, vi (b + 1)), (0, .ref (ad (8 + 2 * i))), (1, vi x)]) dX1_countDueBefore_20 1 rfl (by decide) rfl ?_
          refine V.goto C 4 dX1_countDueBefore_23 (by decide) ?_
          exact ih4 (d + 1) (b + 1) (by omega) (by omega) (by rw [ct_up e0, ← e2, h14]; simp [bI]) (by omega)
  exact loop4 _ 0 0 (by omega) (by omega) ((ct_self _ _).symm) (Nat.lt_succ_self _)
set_option maxHeartbeats 4000000 in
set_option maxRecDepth 100000 in
theorem c_firstDueFrom (l : Launch) (D : va_G) (cy : Nat → ClassId) (sa : Nat → Addr) (hfl : l.stackTraces = false) (ad : Nat → Nat) (n : Nat) (M : Nat → Int → Int) (i : Nat) (hi : i < n) (u : Int → Bool) (hd : ∀ d, 0 ≤ d → d < 720 → M (8 + 2 * i + 1) d = bI (u d)) (x : Int) (h0 : 0 ≤ x) (h1 : x ≤ 720) : Ct l D cy sa yX1_firstDueFrom cX1_firstDueFrom 3 (some .int) 2 0 0 (cl cy (sa 100) ad n M) [.ref (ad (8 + 2 * i)), vi x] (fun v ws2 => v = some (vi (fst u x)) ∧ ws2 = cl cy (sa 100) ad n M) no_x := by
  refine Ct.of (own := RX1) (lc := [(0, .ref (ad (8 + 2 * i))), (1, vi x)]) (by decide +kernel) hfl (Nat.le_of_ble_eq_true rfl) rfl rfl ?_
  intro p e s m args below meth c A C hex hnm
  generalize hQ : vx_MQ below (Qo D (fun v ws2 => v = some (vi (fst u x)) ∧ ws2 = cl cy (sa 100) ad n M) A) (Xo D no_x A) args s 0 0 A = Q
  replace hQ := hQ.symm
  refine V.iload_n C dX1_firstDueFrom_0 1 rfl ?_
  refine V.istore_n C (lc2 := [(2, vi x), (0, .ref (ad (8 + 2 * i))), (1, vi x)]) dX1_firstDueFrom_1 (by decide) rfl ?_
  have loop2 : ∀ (f : Nat) (d : Int), (0 ≤ d) → (d ≤ 720) → (fst u x = fst u d) → ((720 - d).toNat < f) → V D 3 A p l e (rmL 2 0 0) s m args below meth c Q 0 0 (cl cy (sa 100) ad n M) 2 [(2, vi d), (0, .ref (ad (8 + 2 * i))), (1, vi x)] [] := by
    intro f
    induction f with
    | zero => intro d e0 e1 e2 hf; exact absurd hf (Nat.not_lt_zero _)
    | succ f ih2 =>
      intro d e0 e1 e2 hf2
      refine V.iload_n C dX1_firstDueFrom_2 0 rfl ?_
      refine V.sipush C dX1_firstDueFrom_3 (by decide) ?_
      refine V.icmp_ge C 25 dX1_firstDueFrom_6 (by decide) ⟨by omega, by omega⟩ ⟨by decide, by decide⟩ (fun h6 => ?_) (fun h6 => ?_)
      · skip
        refine V.iconst C dX1_firstDueFrom_25 ?_
        rw [hQ]
        exact V.iret C dX1_firstDueFrom_26 (by decide) (by decide) (⟨ri (by rw [e2, fst_end (by omega)]), rfl⟩)
      · skip
        refine V.aload_n C dX1_firstDueFrom_9 1 rfl ?_
        refine V.iload_n C dX1_firstDueFrom_10 0 rfl ?_
        refine V.callV C (As := [vi d]) (st := []) (wr := []) kV_X1_62 (c_isDueOn l D cy sa hfl ad n M i hi u hd d (by omega) (by omega)) rfl (8 + 2 * i) (cl_r hi) rfl rfl rfl (Nat.le_of_ble_eq_true rfl) ⟨by decide, by decide⟩ ⟨by decide, by decide⟩ dX1_firstDueFrom_11 (fun _ _ h => h.elim) (fun v1 w2 r3 => ?_)
        obtain ⟨rfl, rfl⟩ := r3
        show V D 3 A p l e (rmL 2 0 0) s m args below meth c Q 0 0 (cl cy (sa 100) ad n M) 14 [(2, vi d), (0, .ref (ad (8 + 2 * i))), (1, vi x)] [vi (bI (u d))]
        refine V.if_eqB C 19 dX1_firstDueFrom_14 (by decide) (fun h14 => ?_) (fun h14 => ?_)
        · skip
          refine V.iinc C (lc2 := [(2, vi (d + 1)), (0, .ref (ad (8 + 2 * i))), (1, vi x)]) dX1_firstDueFrom_19 0 rfl (by decide) rfl ?_
          refine V.goto C 2 dX1_firstDueFrom_22 (by decide) ?_
          exact ih2 (d + 1) (by omega) (by omega) (by rw [e2, fst_at (by omega), h14]; rfl) (by omega)
        · skip
          refine V.iload_n C dX1_firstDueFrom_17 0 rfl ?_
          rw [hQ]
          exact V.iret C dX1_firstDueFrom_18 (by decide) (by decide) (⟨ri (by rw [e2, fst_at (by omega), if_pos h14]), rfl⟩)
  exact loop2 _ x (by omega) (by omega) rfl (Nat.lt_succ_self _)
set_option maxHeartbeats 4000000 in
set_option maxRecDepth 100000 in
theorem c_openDay (l : Launch) (D : va_G) (cy : Nat → ClassId) (sa : Nat → Addr) (hfl : l.stackTraces = false) (ad : Nat → Nat) (n : Nat) (M : Nat → Int → Int) (i : Nat) (hi : i < n) (u : Int → Bool) (hd : ∀ d, 0 ≤ d → d < 720 → M (8 + 2 * i + 1) d = bI (u d)) (q : Nat → Int) (hk : RF M (8 + 2 * i) q) (hp : PV q) : Ct l D cy sa yX1_openDay cX1_openDay 1 (some .int) 1 0 0 (cl cy (sa 100) ad n M) [.ref (ad (8 + 2 * i))] (fun v ws2 => v = some (vi (dk u 0 (q 8))) ∧ ws2 = cl cy (sa 100) ad n M) no_x := by
  refine Ct.of (own := RX1) (lc := [(0, .ref (ad (8 + 2 * i)))]) (by decide +kernel) hfl (Nat.le_of_ble_eq_true rfl) rfl rfl ?_
  intro p e s m args below meth c A C hex hnm
  generalize hQ : vx_MQ below (Qo D (fun v ws2 => v = some (vi (dk u 0 (q 8))) ∧ ws2 = cl cy (sa 100) ad n M) A) (Xo D no_x A) args s 0 0 A = Q
  replace hQ := hQ.symm
  obtain ⟨hk0, hk1, hk2, hk3, hk4, hk5, hk8, hk9⟩ := id hk
  obtain ⟨⟨p0, p0b⟩, pe, pm, pn, ⟨p2, p2b⟩, ⟨p3, p3b⟩, ⟨p4, p4b⟩, ⟨p5, p5b⟩, ⟨p8, p8b⟩, ⟨p9, p9b⟩⟩ := id hp
  obtain ⟨p1, p1b⟩ := hp.n
  refine V.aload_n C dX1_openDay_0 0 rfl ?_
  refine V.aload_n C dX1_openDay_1 0 rfl ?_
  refine V.getf C (v := vi (q 8)) (8 + 2 * i) (cl_r hi) rfl inX1 8 (by decide) fl_X1_18 (fun _ h => h) (by show some _ = some _; rw [hk8]) dX1_openDay_2 ?_
  refine V.callV C (As := [vi (q 8)]) (st := []) (wr := []) kV_X1_65 (c_dayOfDuty l D cy sa hfl ad n M i hi u hd (q 8) ⟨by omega, by omega⟩) rfl (8 + 2 * i) (cl_r hi) rfl rfl rfl (Nat.le_of_ble_eq_true rfl) ⟨by decide, by decide⟩ ⟨by decide, by decide⟩ dX1_openDay_5 (fun _ _ h => h.elim) (fun v1 w2 r3 => ?_)
  obtain ⟨rfl, rfl⟩ := r3
  show V D 1 A p l e (rmL 1 0 0) s m args below meth c Q 0 0 (cl cy (sa 100) ad n M) 8 [(0, .ref (ad (8 + 2 * i)))] [vi (dk u 0 (q 8))]
  rw [hQ]
  exact V.iret C dX1_openDay_8 (by decide) (by decide) (⟨rfl, rfl⟩)
set_option maxHeartbeats 4000000 in
set_option maxRecDepth 100000 in
theorem c_hasEvidence (l : Launch) (D : va_G) (cy : Nat → ClassId) (sa : Nat → Addr) (hfl : l.stackTraces = false) (ad : Nat → Nat) (n : Nat) (M : Nat → Int → Int) (i : Nat) (hi : i < n) (q : Nat → Int) (hk : RF M (8 + 2 * i) q) (hp : PV q) : Ct l D cy sa yX1_hasEvidence cX1_hasEvidence 1 (some .boolean) 0 0 0 (cl cy (sa 100) ad n M) [.ref (ad (8 + 2 * i))] (fun v ws2 => v = some (vi (bI (!decide (q 9 = -1)))) ∧ ws2 = cl cy (sa 100) ad n M) no_x := by
  refine Ct.of (own := RX1) (lc := [(0, .ref (ad (8 + 2 * i)))]) (by decide +kernel) hfl (Nat.le_of_ble_eq_true rfl) rfl rfl ?_
  intro p e s m args below meth c A C hex hnm
  generalize hQ : vx_MQ below (Qo D (fun v ws2 => v = some (vi (bI (!decide (q 9 = -1)))) ∧ ws2 = cl cy (sa 100) ad n M) A) (Xo D no_x A) args s 0 0 A = Q
  replace hQ := hQ.symm
  obtain ⟨hk0, hk1, hk2, hk3, hk4, hk5, hk8, hk9⟩ := id hk
  obtain ⟨⟨p0, p0b⟩, pe, pm, pn, ⟨p2, p2b⟩, ⟨p3, p3b⟩, ⟨p4, p4b⟩, ⟨p5, p5b⟩, ⟨p8, p8b⟩, ⟨p9, p9b⟩⟩ := id hp
  obtain ⟨p1, p1b⟩ := hp.n
  refine V.aload_n C dX1_hasEvidence_0 0 rfl ?_
  refine V.getf C (v := vi (q 9)) (8 + 2 * i) (cl_r hi) rfl inX1 9 (by decide) fl_X1_21 (fun _ h => h) (by show some _ = some _; rw [hk9]) dX1_hasEvidence_1 ?_
  refine V.iconst C dX1_hasEvidence_4 ?_
  refine V.icmp_eq C 12 dX1_hasEvidence_5 (by decide) ⟨by omega, by omega⟩ ⟨by decide, by decide⟩ (fun h5 => ?_) (fun h5 => ?_)
  · skip
    refine V.iconst C dX1_hasEvidence_12 ?_
    show V D 1 A p l e (rmL 0 0 0) s m args below meth c Q 0 0 (cl cy (sa 100) ad n M) 13 [(0, .ref (ad (8 + 2 * i)))] [vi (bI false)]
    rw [hQ]
    exact V.zret C dX1_hasEvidence_13 (by decide) (by decide) (⟨rb (by simp [h5]), rfl⟩)
  · skip
    refine V.iconst C dX1_hasEvidence_8 ?_
    refine V.goto C 13 dX1_hasEvidence_9 (by decide) ?_
    show V D 1 A p l e (rmL 0 0 0) s m args below meth c Q 0 0 (cl cy (sa 100) ad n M) 13 [(0, .ref (ad (8 + 2 * i)))] [vi (bI true)]
    rw [hQ]
    exact V.zret C dX1_hasEvidence_13 (by decide) (by decide) (⟨rb (by simp [h5]), rfl⟩)
set_option maxHeartbeats 4000000 in
set_option maxRecDepth 100000 in
theorem c_evidenceUntil (l : Launch) (D : va_G) (cy : Nat → ClassId) (sa : Nat → Addr) (hfl : l.stackTraces = false) (ad : Nat → Nat) (n : Nat) (M : Nat → Int → Int) (i : Nat) (hi : i < n) (q : Nat → Int) (hk : RF M (8 + 2 * i) q) (hp : PV q) : Ct l D cy sa yX1_evidenceUntil cX1_evidenceUntil 1 (some .int) 0 0 0 (cl cy (sa 100) ad n M) [.ref (ad (8 + 2 * i))] (fun v ws2 => v = some (vi (q 9 + q 4)) ∧ ws2 = cl cy (sa 100) ad n M) no_x := by
  refine Ct.of (own := RX1) (lc := [(0, .ref (ad (8 + 2 * i)))]) (by decide +kernel) hfl (Nat.le_of_ble_eq_true rfl) rfl rfl ?_
  intro p e s m args below meth c A C hex hnm
  generalize hQ : vx_MQ below (Qo D (fun v ws2 => v = some (vi (q 9 + q 4)) ∧ ws2 = cl cy (sa 100) ad n M) A) (Xo D no_x A) args s 0 0 A = Q
  replace hQ := hQ.symm
  obtain ⟨hk0, hk1, hk2, hk3, hk4, hk5, hk8, hk9⟩ := id hk
  obtain ⟨⟨p0, p0b⟩, pe, pm, pn, ⟨p2, p2b⟩, ⟨p3, p3b⟩, ⟨p4, p4b⟩, ⟨p5, p5b⟩, ⟨p8, p8b⟩, ⟨p9, p9b⟩⟩ := id hp
  obtain ⟨p1, p1b⟩ := hp.n
  refine V.aload_n C dX1_evidenceUntil_0 0 rfl ?_
  refine V.getf C (v := vi (q 9)) (8 + 2 * i) (cl_r hi) rfl inX1 9 (by decide) fl_X1_21 (fun _ h => h) (by show some _ = some _; rw [hk9]) dX1_evidenceUntil_1 ?_
  refine V.aload_n C dX1_evidenceUntil_4 0 rfl ?_
  refine V.getf C (v := vi (q 4)) (8 + 2 * i) (cl_r hi) rfl inX1 4 (by decide) fl_X1_46 (fun _ h => h) (by show some _ = some _; rw [hk4]) dX1_evidenceUntil_5 ?_
  refine V.iadd C dX1_evidenceUntil_8 ?_
  rw [hQ]
  exact V.iret C dX1_evidenceUntil_9 (by decide) (by decide) (⟨rfl, rfl⟩)
set_option maxHeartbeats 4000000 in
set_option maxRecDepth 100000 in
theorem c_isMovedTo (l : Launch) (D : va_G) (cy : Nat → ClassId) (sa : Nat → Addr) (hfl : l.stackTraces = false) (ad : Nat → Nat) (n : Nat) (M : Nat → Int → Int) (i : Nat) (hi : i < n) (d : Int) (h0 : 0 ≤ d) (h1 : d < 720) (q : Nat → Int) (hk : RF M (8 + 2 * i) q) (hp : PV q) (h : Int → Bool) (hc : CalI h M) : Ct l D cy sa yX1_isMovedTo cX1_isMovedTo 5 (some .boolean) 3 0 0 (cl cy (sa 100) ad n M) [.ref (ad (8 + 2 * i)), vi d, .ref (ad 1)] (fun v ws2 => v = some (vi (bI (wb (wk h) (nom h q) (q 5) (dyS (q 5) d).toNat))) ∧ ws2 = cl cy (sa 100) ad n M) no_x := by
  refine Ct.of (own := RX1) (lc := [(0, .ref (ad (8 + 2 * i))), (1, vi d), (2, .ref (ad 1))]) (by decide +kernel) hfl (Nat.le_of_ble_eq_true rfl) rfl rfl ?_
  intro p e s m args below meth c A C hex hnm
  generalize hQ : vx_MQ below (Qo D (fun v ws2 => v = some (vi (bI (wb (wk h) (nom h q) (q 5) (dyS (q 5) d).toNat))) ∧ ws2 = cl cy (sa 100) ad n M) A) (Xo D no_x A) args s 0 0 A = Q
  replace hQ := hQ.symm
  obtain ⟨hk0, hk1, hk2, hk3, hk4, hk5, hk8, hk9⟩ := id hk
  obtain ⟨⟨p0, p0b⟩, pe, pm, pn, ⟨p2, p2b⟩, ⟨p3, p3b⟩, ⟨p4, p4b⟩, ⟨p5, p5b⟩, ⟨p8, p8b⟩, ⟨p9, p9b⟩⟩ := id hp
  obtain ⟨p1, p1b⟩ := hp.n
  refine V.aload_n C dX1_isMovedTo_0 0 rfl ?_
  refine V.getf C (v := vi (q 5)) (8 + 2 * i) (cl_r hi) rfl inX1 5 (by decide) fl_X1_37 (fun _ h => h) (by show some _ = some _; rw [hk5]) dX1_isMovedTo_1 ?_
  refine V.iconst C dX1_isMovedTo_4 ?_
  refine V.icmp_ne C 10 dX1_isMovedTo_5 (by decide) ⟨by omega, by omega⟩ ⟨by decide, by decide⟩ (fun h5 => ?_) (fun h5 => ?_)
  · skip
    refine V.aload_n C dX1_isMovedTo_10 0 rfl ?_
    refine V.getf C (v := vi (q 5)) (8 + 2 * i) (cl_r hi) rfl inX1 5 (by decide) fl_X1_37 (fun _ h => h) (by show some _ = some _; rw [hk5]) dX1_isMovedTo_11 ?_
    refine V.if_ne C 21 dX1_isMovedTo_14 (by decide) ⟨by omega, by omega⟩ (fun h14 => ?_) (fun h14 => ?_)
    · skip
      refine V.iconst C dX1_isMovedTo_21 ?_
      refine V.istore_n C (lc2 := [(3, vi 1), (0, .ref (ad (8 + 2 * i))), (1, vi d), (2, .ref (ad 1))]) dX1_isMovedTo_22 (by decide) rfl ?_
      refine V.iload_n C dX1_isMovedTo_23 2 rfl ?_
      refine V.iload_n C dX1_isMovedTo_24 0 rfl ?_
      refine V.iadd C dX1_isMovedTo_25 ?_
      refine V.istore C (lc2 := [(4, vi (d + 1)), (3, vi 1), (0, .ref (ad (8 + 2 * i))), (1, vi d), (2, .ref (ad 1))]) dX1_isMovedTo_26 (by decide) rfl ?_
      have loop28 : ∀ (f : Nat) (o : Int), (0 ≤ o) → (o ≤ 720) → (wb (wk h) (nom h q) (q 5) (dyS (q 5) d).toNat = wb (wk h) (nom h q) (q 5) (719 - o + 1).toNat) → ((720 - o).toNat < f) → V D 5 A p l e (rmL 3 0 0) s m args below meth c Q 0 0 (cl cy (sa 100) ad n M) 28 [(4, vi o), (3, vi 1), (0, .ref (ad (8 + 2 * i))), (1, vi d), (2, .ref (ad 1))] [] := by
        intro f
        induction f with
        | zero => intro o e0 e1 e2 hf; exact absurd hf (Nat.not_lt_zero _)
        | succ f ih28 =>
          intro o e0 e1 e2 hf28
          have hs : ∀ z : Int, dyS (q 5) (719 - z) = z := fun z => by rw [show q 5 = 1 by omega, dyS_1]; omega
          refine V.iload C dX1_isMovedTo_28 0 rfl ?_
          refine V.if_lt C 71 dX1_isMovedTo_30 (by decide) ⟨by omega, by omega⟩ (fun h30 => ?_) (fun h30 => ?_)
          · skip
            refine V.iconst C dX1_isMovedTo_71 ?_
            show V D 5 A p l e (rmL 3 0 0) s m args below meth c Q 0 0 (cl cy (sa 100) ad n M) 72 [(4, vi o), (3, vi 1), (0, .ref (ad (8 + 2 * i))), (1, vi d), (2, .ref (ad 1))] [vi (bI false)]
            rw [hQ]
            exact V.zret C dX1_isMovedTo_72 (by decide) (by decide) (⟨rb (by rw [e2]; first | (rw [wb_up (by omega), hs, h47]; simp; done) | (rw [show (o + 1).toNat = 0 by omega]; rfl) | (rw [show (719 - o + 1).toNat = 0 by omega]; rfl)), rfl⟩)
          · skip
            refine V.iload C dX1_isMovedTo_33 0 rfl ?_
            refine V.sipush C dX1_isMovedTo_35 (by decide) ?_
            refine V.icmp_ge C 71 dX1_isMovedTo_38 (by decide) ⟨by omega, by omega⟩ ⟨by decide, by decide⟩ (fun h38 => ?_) (fun h38 => ?_)
            · skip
              refine V.iconst C dX1_isMovedTo_71 ?_
              show V D 5 A p l e (rmL 3 0 0) s m args below meth c Q 0 0 (cl cy (sa 100) ad n M) 72 [(4, vi o), (3, vi 1), (0, .ref (ad (8 + 2 * i))), (1, vi d), (2, .ref (ad 1))] [vi (bI false)]
              rw [hQ]
              exact V.zret C dX1_isMovedTo_72 (by decide) (by decide) (⟨rb (by rw [e2]; first | (rw [wb_up (by omega), hs, h47]; simp; done) | (rw [show (o + 1).toNat = 0 by omega]; rfl) | (rw [show (719 - o + 1).toNat = 0 by omega]; rfl)), rfl⟩)
            · skip
              refine V.aload_n C dX1_isMovedTo_41 4 rfl ?_
              refine V.iload C dX1_isMovedTo_42 0 rfl ?_
              refine V.callV C (As := [vi o]) (st := []) (wr := []) kV_X1_49 (c_works l D cy sa hfl ad n M h o (by omega) (by omega) hc.1) rfl 1 cl_1 rfl rfl rfl (Nat.le_of_ble_eq_true rfl) ⟨by decide, by decide⟩ ⟨by decide, by decide⟩ dX1_isMovedTo_44 (fun _ _ h => h.elim) (fun v1 w2 r3 => ?_)
              obtain ⟨rfl, rfl⟩ := r3
              show V D 5 A p l e (rmL 3 0 0) s m args below meth c Q 0 0 (cl cy (sa 100) ad n M) 47 [(4, vi o), (3, vi 1), (0, .ref (ad (8 + 2 * i))), (1, vi d), (2, .ref (ad 1))] [vi (bI (wk h o))]
              refine V.if_neB C 71 dX1_isMovedTo_47 (by decide) (fun h47 => ?_) (fun h47 => ?_)
              · skip
                refine V.iconst C dX1_isMovedTo_71 ?_
                show V D 5 A p l e (rmL 3 0 0) s m args below meth c Q 0 0 (cl cy (sa 100) ad n M) 72 [(4, vi o), (3, vi 1), (0, .ref (ad (8 + 2 * i))), (1, vi d), (2, .ref (ad 1))] [vi (bI false)]
                rw [hQ]
                exact V.zret C dX1_isMovedTo_72 (by decide) (by decide) (⟨rb (by rw [e2]; first | (rw [wb_up (by omega), hs, h47]; simp; done) | (rw [show (o + 1).toNat = 0 by omega]; rfl) | (rw [show (719 - o + 1).toNat = 0 by omega]; rfl)), rfl⟩)
              · skip
                refine V.aload_n C dX1_isMovedTo_50 2 rfl ?_
                refine V.iload C dX1_isMovedTo_51 0 rfl ?_
                refine V.aload_n C dX1_isMovedTo_53 4 rfl ?_
                refine V.callV C (As := [vi o, .ref (ad 1)]) (st := []) (wr := []) kV_X1_55 (c_isNominal l D cy sa hfl ad n M i hi h q o (by omega) (by omega) hk hp hc) rfl (8 + 2 * i) (cl_r hi) rfl rfl rfl (Nat.le_of_ble_eq_true rfl) ⟨by decide, by decide⟩ ⟨by decide, by decide⟩ dX1_isMovedTo_54 (fun _ _ h => h.elim) (fun v4 w5 r6 => ?_)
                obtain ⟨rfl, rfl⟩ := r6
                show V D 5 A p l e (rmL 3 0 0) s m args below meth c Q 0 0 (cl cy (sa 100) ad n M) 57 [(4, vi o), (3, vi 1), (0, .ref (ad (8 + 2 * i))), (1, vi d), (2, .ref (ad 1))] [vi (bI (nom h q o))]
                refine V.if_eqB C 62 dX1_isMovedTo_57 (by decide) (fun h57 => ?_) (fun h57 => ?_)
                · skip
                  refine V.iload C dX1_isMovedTo_62 0 rfl ?_
                  refine V.iload_n C dX1_isMovedTo_64 1 rfl ?_
                  refine V.iadd C dX1_isMovedTo_65 ?_
                  refine V.istore C (lc2 := [(4, vi (o + 1)), (3, vi 1), (0, .ref (ad (8 + 2 * i))), (1, vi d), (2, .ref (ad 1))]) dX1_isMovedTo_66 (by decide) rfl ?_
                  refine V.goto C 28 dX1_isMovedTo_68 (by decide) ?_
                  exact ih28 (o + 1) (by omega) (by omega) (by rw [e2, wb_up (by omega), hs, h47, h57, show 719 - (o + 1) + 1 = 719 - o by omega]; simp; omega) (by omega)
                · skip
                  refine V.iconst C dX1_isMovedTo_60 ?_
                  show V D 5 A p l e (rmL 3 0 0) s m args below meth c Q 0 0 (cl cy (sa 100) ad n M) 61 [(4, vi o), (3, vi 1), (0, .ref (ad (8 + 2 * i))), (1, vi d), (2, .ref (ad 1))] [vi (bI true)]
                  rw [hQ]
                  exact V.zret C dX1_isMovedTo_61 (by decide) (by decide) (⟨rb (by rw [e2, wb_up (by omega), hs, h47, h57]; simp; omega), rfl⟩)
      exact loop28 _ (d + 1) (by omega) (by omega) (by rw [show q 5 = 1 by omega, dyS_1]; congr 2; omega) (Nat.lt_succ_self _)
    · skip
      refine V.iconst C dX1_isMovedTo_17 ?_
      refine V.goto C 22 dX1_isMovedTo_18 (by decide) ?_
      refine V.istore_n C (lc2 := [(3, vi (-1)), (0, .ref (ad (8 + 2 * i))), (1, vi d), (2, .ref (ad 1))]) dX1_isMovedTo_22 (by decide) rfl ?_
      refine V.iload_n C dX1_isMovedTo_23 2 rfl ?_
      refine V.iload_n C dX1_isMovedTo_24 0 rfl ?_
      refine V.iadd C dX1_isMovedTo_25 ?_
      refine V.istore C (lc2 := [(4, vi (d + (-1))), (3, vi (-1)), (0, .ref (ad (8 + 2 * i))), (1, vi d), (2, .ref (ad 1))]) dX1_isMovedTo_26 (by decide) rfl ?_
      have loop28 : ∀ (f : Nat) (o : Int), (-1 ≤ o) → (o < 720) → (wb (wk h) (nom h q) (q 5) (dyS (q 5) d).toNat = wb (wk h) (nom h q) (q 5) (o + 1).toNat) → ((o + 1).toNat < f) → V D 5 A p l e (rmL 3 0 0) s m args below meth c Q 0 0 (cl cy (sa 100) ad n M) 28 [(4, vi o), (3, vi (-1)), (0, .ref (ad (8 + 2 * i))), (1, vi d), (2, .ref (ad 1))] [] := by
        intro f
        induction f with
        | zero => intro o e0 e1 e2 hf; exact absurd hf (Nat.not_lt_zero _)
        | succ f ih28 =>
          intro o e0 e1 e2 hf28
          have hs : ∀ z : Int, dyS (q 5) z = z := fun z => dyS_n (by omega)
          refine V.iload C dX1_isMovedTo_28 0 rfl ?_
          refine V.if_lt C 71 dX1_isMovedTo_30 (by decide) ⟨by omega, by omega⟩ (fun h30 => ?_) (fun h30 => ?_)
          · skip
            refine V.iconst C dX1_isMovedTo_71 ?_
            show V D 5 A p l e (rmL 3 0 0) s m args below meth c Q 0 0 (cl cy (sa 100) ad n M) 72 [(4, vi o), (3, vi (-1)), (0, .ref (ad (8 + 2 * i))), (1, vi d), (2, .ref (ad 1))] [vi (bI false)]
            rw [hQ]
            exact V.zret C dX1_isMovedTo_72 (by decide) (by decide) (⟨rb (by rw [e2]; first | (rw [wb_up (by omega), hs, h47]; simp; done) | (rw [show (o + 1).toNat = 0 by omega]; rfl) | (rw [show (719 - o + 1).toNat = 0 by omega]; rfl)), rfl⟩)
          · skip
            refine V.iload C dX1_isMovedTo_33 0 rfl ?_
            refine V.sipush C dX1_isMovedTo_35 (by decide) ?_
            refine V.icmp_ge C 71 dX1_isMovedTo_38 (by decide) ⟨by omega, by omega⟩ ⟨by decide, by decide⟩ (fun h38 => ?_) (fun h38 => ?_)
            · skip
              refine V.iconst C dX1_isMovedTo_71 ?_
              show V D 5 A p l e (rmL 3 0 0) s m args below meth c Q 0 0 (cl cy (sa 100) ad n M) 72 [(4, vi o), (3, vi (-1)), (0, .ref (ad (8 + 2 * i))), (1, vi d), (2, .ref (ad 1))] [vi (bI false)]
              rw [hQ]
              exact V.zret C dX1_isMovedTo_72 (by decide) (by decide) (⟨rb (by rw [e2]; first | (rw [wb_up (by omega), hs, h47]; simp; done) | (rw [show (o + 1).toNat = 0 by omega]; rfl) | (rw [show (719 - o + 1).toNat = 0 by omega]; rfl)), rfl⟩)
            · skip
              refine V.aload_n C dX1_isMovedTo_41 4 rfl ?_
              refine V.iload C dX1_isMovedTo_42 0 rfl ?_
              refine V.callV C (As := [vi o]) (st := []) (wr := []) kV_X1_49 (c_works l D cy sa hfl ad n M h o (by omega) (by omega) hc.1) rfl 1 cl_1 rfl rfl rfl (Nat.le_of_ble_eq_true rfl) ⟨by decide, by decide⟩ ⟨by decide, by decide⟩ dX1_isMovedTo_44 (fun _ _ h => h.elim) (fun v7 w8 r9 => ?_)
              obtain ⟨rfl, rfl⟩ := r9
              show V D 5 A p l e (rmL 3 0 0) s m args below meth c Q 0 0 (cl cy (sa 100) ad n M) 47 [(4, vi o), (3, vi (-1)), (0, .ref (ad (8 + 2 * i))), (1, vi d), (2, .ref (ad 1))] [vi (bI (wk h o))]
              refine V.if_neB C 71 dX1_isMovedTo_47 (by decide) (fun h47 => ?_) (fun h47 => ?_)
              · skip
                refine V.iconst C dX1_isMovedTo_71 ?_
                show V D 5 A p l e (rmL 3 0 0) s m args below meth c Q 0 0 (cl cy (sa 100) ad n M) 72 [(4, vi o), (3, vi (-1)), (0, .ref (ad (8 + 2 * i))), (1, vi d), (2, .ref (ad 1))] [vi (bI false)]
                rw [hQ]
                exact V.zret C dX1_isMovedTo_72 (by decide) (by decide) (⟨rb (by rw [e2]; first | (rw [wb_up (by omega), hs, h47]; simp; done) | (rw [show (o + 1).toNat = 0 by omega]; rfl) | (rw [show (719 - o + 1).toNat = 0 by omega]; rfl)), rfl⟩)
              · skip
                refine V.aload_n C dX1_isMovedTo_50 2 rfl ?_
                refine V.iload C dX1_isMovedTo_51 0 rfl ?_
                refine V.aload_n C dX1_isMovedTo_53 4 rfl ?_
                refine V.callV C (As := [vi o, .ref (ad 1)]) (st := []) (wr := []) kV_X1_55 (c_isNominal l D cy sa hfl ad n M i hi h q o (by omega) (by omega) hk hp hc) rfl (8 + 2 * i) (cl_r hi) rfl rfl rfl (Nat.le_of_ble_eq_true rfl) ⟨by decide, by decide⟩ ⟨by decide, by decide⟩ dX1_isMovedTo_54 (fun _ _ h => h.elim) (fun v10 w11 r12 => ?_)
                obtain ⟨rfl, rfl⟩ := r12
                show V D 5 A p l e (rmL 3 0 0) s m args below meth c Q 0 0 (cl cy (sa 100) ad n M) 57 [(4, vi o), (3, vi (-1)), (0, .ref (ad (8 + 2 * i))), (1, vi d), (2, .ref (ad 1))] [vi (bI (nom h q o))]
                refine V.if_eqB C 62 dX1_isMovedTo_57 (by decide) (fun h57 => ?_) (fun h57 => ?_)
                · skip
                  refine V.iload C dX1_isMovedTo_62 0 rfl ?_
                  refine V.iload_n C dX1_isMovedTo_64 1 rfl ?_
                  refine V.iadd C dX1_isMovedTo_65 ?_
                  refine V.istore C (lc2 := [(4, vi (o + (-1))), (3, vi (-1)), (0, .ref (ad (8 + 2 * i))), (1, vi d), (2, .ref (ad 1))]) dX1_isMovedTo_66 (by decide) rfl ?_
                  refine V.goto C 28 dX1_isMovedTo_68 (by decide) ?_
                  exact ih28 (o + (-1)) (by omega) (by omega) (by rw [e2, wb_up (by omega), hs, h47, h57, show o + -1 + 1 = o by omega]; simp; omega) (by omega)
                · skip
                  refine V.iconst C dX1_isMovedTo_60 ?_
                  show V D 5 A p l e (rmL 3 0 0) s m args below meth c Q 0 0 (cl cy (sa 100) ad n M) 61 [(4, vi o), (3, vi (-1)), (0, .ref (ad (8 + 2 * i))), (1, vi d), (2, .ref (ad 1))] [vi (bI true)]
                  rw [hQ]
                  exact V.zret C dX1_isMovedTo_61 (by decide) (by decide) (⟨rb (by rw [e2, wb_up (by omega), hs, h47, h57]; simp; omega), rfl⟩)
      exact loop28 _ (d + (-1)) (by omega) (by omega) (by rw [dyS_n (by omega)]; congr 2; omega) (Nat.lt_succ_self _)
  · skip
    refine V.iconst C dX1_isMovedTo_8 ?_
    show V D 5 A p l e (rmL 3 0 0) s m args below meth c Q 0 0 (cl cy (sa 100) ad n M) 9 [(0, .ref (ad (8 + 2 * i))), (1, vi d), (2, .ref (ad 1))] [vi (bI false)]
    rw [hQ]
    exact V.zret C dX1_isMovedTo_9 (by decide) (by decide) (⟨rb (by rw [show q 5 = 2 by omega, wb_2]), rfl⟩)
theorem wlk_0 {h : Int → Bool} {q : Nat → Int} {d : Int} (hd : d < 720) (h1 : wk h d = false) : fst (dueR h q) d = fst (dueR h q) (d + 1) := by
  rw [fst_at hd, dueR, due, h1]; rfl
theorem wlk_n {h : Int → Bool} {q : Nat → Int} {d : Int} (hd : d < 720) (h1 : nom h q d = false) (h2 : wb (wk h) (nom h q) (q 5) (dyS (q 5) d).toNat = false) : fst (dueR h q) d = fst (dueR h q) (d + 1) := by
  rw [fst_at hd, dueR, due, h1, h2]; simp
theorem wlk_t {h : Int → Bool} {q : Nat → Int} {d : Int} (hd : d < 720) (h1 : wk h d = true) (h2 : nom h q d = true ∨ wb (wk h) (nom h q) (q 5) (dyS (q 5) d).toNat = true) : fst (dueR h q) d = d := by
  rw [fst_at hd, dueR, due, h1]
  rcases h2 with h2 | h2 <;> rw [h2] <;> simp
set_option maxHeartbeats 4000000 in
set_option maxRecDepth 100000 in
theorem c_walkToDue (l : Launch) (D : va_G) (cy : Nat → ClassId) (sa : Nat → Addr) (hfl : l.stackTraces = false) (ad : Nat → Nat) (n : Nat) (M : Nat → Int → Int) (i : Nat) (hi : i < n) (x : Int) (h0 : 0 ≤ x) (h1 : x < 720) (q : Nat → Int) (hk : RF M (8 + 2 * i) q) (hp : PV q) (h : Int → Bool) (hc : CalI h M) : Ct l D cy sa yX1_walkToDue cX1_walkToDue 4 (some .int) 4 0 0 (cl cy (sa 100) ad n M) [.ref (ad (8 + 2 * i)), vi x, .ref (ad 1)] (fun v ws2 => v = some (vi (fst (dueR h q) x)) ∧ ws2 = cl cy (sa 100) ad n M) no_x := by
  refine Ct.of (own := RX1) (lc := [(0, .ref (ad (8 + 2 * i))), (1, vi x), (2, .ref (ad 1))]) (by decide +kernel) hfl (Nat.le_of_ble_eq_true rfl) rfl rfl ?_
  intro p e s m args below meth c A C hex hnm
  generalize hQ : vx_MQ below (Qo D (fun v ws2 => v = some (vi (fst (dueR h q) x)) ∧ ws2 = cl cy (sa 100) ad n M) A) (Xo D no_x A) args s 0 0 A = Q
  replace hQ := hQ.symm
  obtain ⟨hk0, hk1, hk2, hk3, hk4, hk5, hk8, hk9⟩ := id hk
  obtain ⟨⟨p0, p0b⟩, pe, pm, pn, ⟨p2, p2b⟩, ⟨p3, p3b⟩, ⟨p4, p4b⟩, ⟨p5, p5b⟩, ⟨p8, p8b⟩, ⟨p9, p9b⟩⟩ := id hp
  obtain ⟨p1, p1b⟩ := hp.n
  refine V.iload_n C dX1_walkToDue_0 1 rfl ?_
  refine V.istore_n C (lc2 := [(3, vi x), (0, .ref (ad (8 + 2 * i))), (1, vi x), (2, .ref (ad 1))]) dX1_walkToDue_1 (by decide) rfl ?_
  have loop2 : ∀ (f : Nat) (d : Int), (0 ≤ d) → (d ≤ 720) → (fst (dueR h q) x = fst (dueR h q) d) → ((720 - d).toNat < f) → V D 4 A p l e (rmL 4 0 0) s m args below meth c Q 0 0 (cl cy (sa 100) ad n M) 2 [(3, vi d), (0, .ref (ad (8 + 2 * i))), (1, vi x), (2, .ref (ad 1))] [] := by
    intro f
    induction f with
    | zero => intro d e0 e1 e2 hf; exact absurd hf (Nat.not_lt_zero _)
    | succ f ih2 =>
      intro d e0 e1 e2 hf2
      refine V.iload_n C dX1_walkToDue_2 0 rfl ?_
      refine V.sipush C dX1_walkToDue_3 (by decide) ?_
      refine V.icmp_ge C 43 dX1_walkToDue_6 (by decide) ⟨by omega, by omega⟩ ⟨by decide, by decide⟩ (fun h6 => ?_) (fun h6 => ?_)
      · skip
        refine V.iconst C dX1_walkToDue_43 ?_
        rw [hQ]
        exact V.iret C dX1_walkToDue_44 (by decide) (by decide) (⟨ri (by rw [e2, fst_end (by omega)]), rfl⟩)
      · skip
        refine V.aload_n C dX1_walkToDue_9 3 rfl ?_
        refine V.iload_n C dX1_walkToDue_10 0 rfl ?_
        refine V.callV C (As := [vi d]) (st := []) (wr := []) kV_X1_49 (c_works l D cy sa hfl ad n M h d (by omega) (by omega) hc.1) rfl 1 cl_1 rfl rfl rfl (Nat.le_of_ble_eq_true rfl) ⟨by decide, by decide⟩ ⟨by decide, by decide⟩ dX1_walkToDue_11 (fun _ _ h => h.elim) (fun v1 w2 r3 => ?_)
        obtain ⟨rfl, rfl⟩ := r3
        show V D 4 A p l e (rmL 4 0 0) s m args below meth c Q 0 0 (cl cy (sa 100) ad n M) 14 [(3, vi d), (0, .ref (ad (8 + 2 * i))), (1, vi x), (2, .ref (ad 1))] [vi (bI (wk h d))]
        refine V.if_eqB C 37 dX1_walkToDue_14 (by decide) (fun h14 => ?_) (fun h14 => ?_)
        · skip
          refine V.iinc C (lc2 := [(3, vi (d + 1)), (0, .ref (ad (8 + 2 * i))), (1, vi x), (2, .ref (ad 1))]) dX1_walkToDue_37 0 rfl (by decide) rfl ?_
          refine V.goto C 2 dX1_walkToDue_40 (by decide) ?_
          exact ih2 (d + 1) (by omega) (by omega) (by first | exact e2.trans (wlk_0 (by omega) h14) | exact e2.trans (wlk_n (by omega) h23 h32)) (by omega)
        · skip
          refine V.aload_n C dX1_walkToDue_17 1 rfl ?_
          refine V.iload_n C dX1_walkToDue_18 0 rfl ?_
          refine V.aload_n C dX1_walkToDue_19 3 rfl ?_
          refine V.callV C (As := [vi d, .ref (ad 1)]) (st := []) (wr := []) kV_X1_55 (c_isNominal l D cy sa hfl ad n M i hi h q d (by omega) (by omega) hk hp hc) rfl (8 + 2 * i) (cl_r hi) rfl rfl rfl (Nat.le_of_ble_eq_true rfl) ⟨by decide, by decide⟩ ⟨by decide, by decide⟩ dX1_walkToDue_20 (fun _ _ h => h.elim) (fun v4 w5 r6 => ?_)
          obtain ⟨rfl, rfl⟩ := r6
          show V D 4 A p l e (rmL 4 0 0) s m args below meth c Q 0 0 (cl cy (sa 100) ad n M) 23 [(3, vi d), (0, .ref (ad (8 + 2 * i))), (1, vi x), (2, .ref (ad 1))] [vi (bI (nom h q d))]
          refine V.if_neB C 35 dX1_walkToDue_23 (by decide) (fun h23 => ?_) (fun h23 => ?_)
          · skip
            refine V.iload_n C dX1_walkToDue_35 0 rfl ?_
            rw [hQ]
            exact V.iret C dX1_walkToDue_36 (by decide) (by decide) (⟨ri (by first | exact (e2.trans (wlk_t (by omega) h14 (Or.inl h23))).symm | exact (e2.trans (wlk_t (by omega) h14 (Or.inr h32))).symm), rfl⟩)
          · skip
            refine V.aload_n C dX1_walkToDue_26 1 rfl ?_
            refine V.iload_n C dX1_walkToDue_27 0 rfl ?_
            refine V.aload_n C dX1_walkToDue_28 3 rfl ?_
            refine V.callV C (As := [vi d, .ref (ad 1)]) (st := []) (wr := []) kV_X1_69 (c_isMovedTo l D cy sa hfl ad n M i hi d e0 (by omega) q hk hp h hc) rfl (8 + 2 * i) (cl_r hi) rfl rfl rfl (Nat.le_of_ble_eq_true rfl) ⟨by decide, by decide⟩ ⟨by decide, by decide⟩ dX1_walkToDue_29 (fun _ _ h => h.elim) (fun v7 w8 r9 => ?_)
            obtain ⟨rfl, rfl⟩ := r9
            show V D 4 A p l e (rmL 4 0 0) s m args below meth c Q 0 0 (cl cy (sa 100) ad n M) 32 [(3, vi d), (0, .ref (ad (8 + 2 * i))), (1, vi x), (2, .ref (ad 1))] [vi (bI (wb (wk h) (nom h q) (q 5) (dyS (q 5) d).toNat))]
            refine V.if_eqB C 37 dX1_walkToDue_32 (by decide) (fun h32 => ?_) (fun h32 => ?_)
            · skip
              refine V.iinc C (lc2 := [(3, vi (d + 1)), (0, .ref (ad (8 + 2 * i))), (1, vi x), (2, .ref (ad 1))]) dX1_walkToDue_37 0 rfl (by decide) rfl ?_
              refine V.goto C 2 dX1_walkToDue_40 (by decide) ?_
              exact ih2 (d + 1) (by omega) (by omega) (by first | exact e2.trans (wlk_0 (by omega) h14) | exact e2.trans (wlk_n (by omega) h23 h32)) (by omega)
            · skip
              refine V.iload_n C dX1_walkToDue_35 0 rfl ?_
              rw [hQ]
              exact V.iret C dX1_walkToDue_36 (by decide) (by decide) (⟨ri (by first | exact (e2.trans (wlk_t (by omega) h14 (Or.inl h23))).symm | exact (e2.trans (wlk_t (by omega) h14 (Or.inr h32))).symm), rfl⟩)
  exact loop2 _ x (by omega) (by omega) rfl (Nat.lt_succ_self _)
set_option maxHeartbeats 4000000 in
set_option maxRecDepth 100000 in
theorem c_requires (l : Launch) (D : va_G) (cy : Nat → ClassId) (sa : Nat → Addr) (hfl : l.stackTraces = false) (ad : Nat → Nat) (n : Nat) (M : Nat → Int → Int) (i : Nat) (hi : i < n) (mk : Nat) (hm : M (8 + 2 * i) 6 = (mk : Int)) (o : Nat) (ho : o < 8) : Ct l D cy sa yX1_requires cX1_requires 2 (some .boolean) 0 0 0 (cl cy (sa 100) ad n M) [.ref (ad (8 + 2 * i)), vi (o : Int)] (fun v ws2 => v = some (vi (bI (mk.testBit o))) ∧ ws2 = cl cy (sa 100) ad n M) no_x := by
  refine Ct.of (own := RX1) (lc := [(0, .ref (ad (8 + 2 * i))), (1, vi (o : Int))]) (by decide +kernel) hfl (Nat.le_of_ble_eq_true rfl) rfl rfl ?_
  intro p e s m args below meth c A C hex hnm
  generalize hQ : vx_MQ below (Qo D (fun v ws2 => v = some (vi (bI (mk.testBit o))) ∧ ws2 = cl cy (sa 100) ad n M) A) (Xo D no_x A) args s 0 0 A = Q
  replace hQ := hQ.symm
  refine V.aload_n C dX1_requires_0 0 rfl ?_
  refine V.getf C (v := vi (mk : Int)) (8 + 2 * i) (cl_r hi) rfl inX1 6 (by decide) fl_X1_9 (fun _ h => h) (by show some _ = some _; rw [hm]) dX1_requires_1 ?_
  refine V.iconst C dX1_requires_4 ?_
  refine V.iload_n C dX1_requires_5 1 rfl ?_
  refine V.ishl C (z := ((2 ^ o : Nat) : Int)) dX1_requires_6 (zI_shl1 ho) ?_
  refine V.iand C (z := ((mk &&& 2 ^ o : Nat) : Int)) dX1_requires_7 (zI_and mk (2 ^ o)) ?_
  have hb1 : mk &&& 2 ^ o ≤ 2 ^ o := Nat.and_le_right
  have hb2 := pow8 ho
  refine V.if_eq C 15 dX1_requires_8 (by decide) ⟨by omega, by omega⟩ (fun h8 => ?_) (fun h8 => ?_)
  · skip
    refine V.iconst C dX1_requires_15 ?_
    show V D 2 A p l e (rmL 0 0 0) s m args below meth c Q 0 0 (cl cy (sa 100) ad n M) 16 [(0, .ref (ad (8 + 2 * i))), (1, vi (o : Int))] [vi (bI false)]
    rw [hQ]
    exact V.zret C dX1_requires_16 (by decide) (by decide) (⟨rb (by first | (have := (bit_0 mk o).mp (by omega); rw [this]) | (cases hb : mk.testBit o with | true => rfl | false => exact absurd (by have := (bit_0 mk o).mpr hb; omega) h8)), rfl⟩)
  · skip
    refine V.iconst C dX1_requires_11 ?_
    refine V.goto C 16 dX1_requires_12 (by decide) ?_
    show V D 2 A p l e (rmL 0 0 0) s m args below meth c Q 0 0 (cl cy (sa 100) ad n M) 16 [(0, .ref (ad (8 + 2 * i))), (1, vi (o : Int))] [vi (bI true)]
    rw [hQ]
    exact V.zret C dX1_requires_16 (by decide) (by decide) (⟨rb (by first | (have := (bit_0 mk o).mp (by omega); rw [this]) | (cases hb : mk.testBit o with | true => rfl | false => exact absurd (by have := (bit_0 mk o).mpr hb; omega) h8)), rfl⟩)
set_option maxHeartbeats 4000000 in
set_option maxRecDepth 100000 in
theorem c_needs (l : Launch) (D : va_G) (cy : Nat → ClassId) (sa : Nat → Addr) (hfl : l.stackTraces = false) (ad : Nat → Nat) (n : Nat) (M : Nat → Int → Int) (i : Nat) (hi : i < n) (mk : Nat) (hm : M (8 + 2 * i) 7 = (mk : Int)) (o : Nat) (ho : o < 8) : Ct l D cy sa yX1_needs cX1_needs 2 (some .boolean) 0 0 0 (cl cy (sa 100) ad n M) [.ref (ad (8 + 2 * i)), vi (o : Int)] (fun v ws2 => v = some (vi (bI (mk.testBit o))) ∧ ws2 = cl cy (sa 100) ad n M) no_x := by
  refine Ct.of (own := RX1) (lc := [(0, .ref (ad (8 + 2 * i))), (1, vi (o : Int))]) (by decide +kernel) hfl (Nat.le_of_ble_eq_true rfl) rfl rfl ?_
  intro p e s m args below meth c A C hex hnm
  generalize hQ : vx_MQ below (Qo D (fun v ws2 => v = some (vi (bI (mk.testBit o))) ∧ ws2 = cl cy (sa 100) ad n M) A) (Xo D no_x A) args s 0 0 A = Q
  replace hQ := hQ.symm
  refine V.aload_n C dX1_needs_0 0 rfl ?_
  refine V.getf C (v := vi (mk : Int)) (8 + 2 * i) (cl_r hi) rfl inX1 7 (by decide) fl_X1_15 (fun _ h => h) (by show some _ = some _; rw [hm]) dX1_needs_1 ?_
  refine V.iconst C dX1_needs_4 ?_
  refine V.iload_n C dX1_needs_5 1 rfl ?_
  refine V.ishl C (z := ((2 ^ o : Nat) : Int)) dX1_needs_6 (zI_shl1 ho) ?_
  refine V.iand C (z := ((mk &&& 2 ^ o : Nat) : Int)) dX1_needs_7 (zI_and mk (2 ^ o)) ?_
  have hb1 : mk &&& 2 ^ o ≤ 2 ^ o := Nat.and_le_right
  have hb2 := pow8 ho
  refine V.if_eq C 15 dX1_needs_8 (by decide) ⟨by omega, by omega⟩ (fun h8 => ?_) (fun h8 => ?_)
  · skip
    refine V.iconst C dX1_needs_15 ?_
    show V D 2 A p l e (rmL 0 0 0) s m args below meth c Q 0 0 (cl cy (sa 100) ad n M) 16 [(0, .ref (ad (8 + 2 * i))), (1, vi (o : Int))] [vi (bI false)]
    rw [hQ]
    exact V.zret C dX1_needs_16 (by decide) (by decide) (⟨rb (by first | (have := (bit_0 mk o).mp (by omega); rw [this]) | (cases hb : mk.testBit o with | true => rfl | false => exact absurd (by have := (bit_0 mk o).mpr hb; omega) h8)), rfl⟩)
  · skip
    refine V.iconst C dX1_needs_11 ?_
    refine V.goto C 16 dX1_needs_12 (by decide) ?_
    show V D 2 A p l e (rmL 0 0 0) s m args below meth c Q 0 0 (cl cy (sa 100) ad n M) 16 [(0, .ref (ad (8 + 2 * i))), (1, vi (o : Int))] [vi (bI true)]
    rw [hQ]
    exact V.zret C dX1_needs_16 (by decide) (by decide) (⟨rb (by first | (have := (bit_0 mk o).mp (by omega); rw [this]) | (cases hb : mk.testBit o with | true => rfl | false => exact absurd (by have := (bit_0 mk o).mpr hb; omega) h8)), rfl⟩)
