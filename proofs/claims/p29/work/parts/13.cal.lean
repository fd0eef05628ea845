set_option maxHeartbeats 4000000 in
set_option maxRecDepth 100000 in
theorem c_isDay (l : Launch) (D : va_G) (cy : Nat → ClassId) (sa : Nat → Addr) (hfl : l.stackTraces = false) (ws : va_W) (d : Int) (hd : inR d) : Ct l D cy sa yX2_isDay cX2_isDay 1 (some .boolean) 0 0 0 ws [vi d] (fun v ws2 => v = some (vi (bI (isDy d))) ∧ ws2 = ws) no_x := by
  refine Ct.of (own := RX2) (lc := [(0, vi d)]) (by decide +kernel) hfl (Nat.le_of_ble_eq_true rfl) rfl rfl ?_
  intro p e s m args below meth c A C hex hnm
  generalize hQ : vx_MQ below (Qo D (fun v ws2 => v = some (vi (bI (isDy d))) ∧ ws2 = ws) A) (Xo D no_x A) args s 0 0 A = Q
  replace hQ := hQ.symm
  obtain ⟨hd1, hd2⟩ := hd
  refine V.iload_n C dX2_isDay_0 0 rfl ?_
  refine V.if_lt C 15 dX2_isDay_1 (by decide) ⟨by omega, by omega⟩ (fun h1 => ?_) (fun h1 => ?_)
  · skip
    refine V.iconst C dX2_isDay_15 ?_
    show V D 1 A p l e (rmL 0 0 0) s m args below meth c Q 0 0 ws 16 [(0, vi d)] [vi (bI false)]
    rw [hQ]
    exact V.zret C dX2_isDay_16 (by decide) (by decide) (⟨rb (by first | exact (isDy_f (by omega)).symm | exact (isDy_t (by omega) (by omega)).symm), rfl⟩)
  · skip
    refine V.iload_n C dX2_isDay_4 0 rfl ?_
    refine V.sipush C dX2_isDay_5 (by decide) ?_
    refine V.icmp_ge C 15 dX2_isDay_8 (by decide) ⟨by omega, by omega⟩ ⟨by decide, by decide⟩ (fun h8 => ?_) (fun h8 => ?_)
    · skip
      refine V.iconst C dX2_isDay_15 ?_
      show V D 1 A p l e (rmL 0 0 0) s m args below meth c Q 0 0 ws 16 [(0, vi d)] [vi (bI false)]
      rw [hQ]
      exact V.zret C dX2_isDay_16 (by decide) (by decide) (⟨rb (by first | exact (isDy_f (by omega)).symm | exact (isDy_t (by omega) (by omega)).symm), rfl⟩)
    · skip
      refine V.iconst C dX2_isDay_11 ?_
      refine V.goto C 16 dX2_isDay_12 (by decide) ?_
      show V D 1 A p l e (rmL 0 0 0) s m args below meth c Q 0 0 ws 16 [(0, vi d)] [vi (bI true)]
      rw [hQ]
      exact V.zret C dX2_isDay_16 (by decide) (by decide) (⟨rb (by first | exact (isDy_f (by omega)).symm | exact (isDy_t (by omega) (by omega)).symm), rfl⟩)
theorem ns_t {h : Int → Bool} {a d w : Int} (e3 : w = ct (wk h) a d) (e1 : a ≤ d) (hm : d - d % 30 = a) (h40 : wk h d = true) : w + 1 = NS h d := by
  rw [NS, if_pos h40, hm, ct_up e1, ← e3, h40]; rfl
theorem ns_f {h : Int → Bool} {d : Int} (h40 : wk h d = false) : 0 = NS h d := by rw [NS, h40]; rfl
theorem ne_t {h : Int → Bool} {a d x : Int} (e1 : a ≤ d) (e2 : d < a + 30) (hm : d - d % 30 = a) (h40 : wk h d = true) (hx : x = if a ≤ d ∧ d < a + 30 then NS h d else 0) : ct (wk h) a (a + 30) + 1 - x = NE h d := by
  rw [hx, if_pos ⟨e1, e2⟩, NS, NE, if_pos h40, if_pos h40, hm, ct_split (show a ≤ d + 1 by omega) (show d + 1 ≤ a + 30 by omega), ct_down e2, h40]
  have : bI true = 1 := rfl
  omega
theorem ne_f {h : Int → Bool} {d : Int} (h40 : wk h d = false) : 0 = NE h d := by rw [NE, h40]; rfl
def mon (h : Int → Bool) (day : Int) (M M2 : Nat → Int → Int) : Prop := (∀ k, k ≠ 3 → k ≠ 4 → M2 k = M k) ∧ (∀ d, M2 3 d = if day - day % 30 ≤ d ∧ d < day - day % 30 + 30 then NS h d else M 3 d) ∧ ∀ d, M2 4 d = if day - day % 30 ≤ d ∧ d < day - day % 30 + 30 then NE h d else M 4 d
set_option maxHeartbeats 4000000 in
set_option maxRecDepth 100000 in
theorem c_works_K (l : Launch) (D : va_G) (cy : Nat → ClassId) (sa : Nat → Addr) (hfl : l.stackTraces = false) (ad : Nat → Nat) (M : Nat → Int → Int) (h : Int → Bool) (d : Int) (h0 : 0 ≤ d) (h1 : d < 720) (hh : CH h M) : Ct l D cy sa yX0_works cX0_works 2 (some .boolean) 1 0 0 (kl cy ad M) [.ref (ad 1), vi d] (fun v ws2 => v = some (vi (bI (wk h d))) ∧ ws2 = kl cy ad M) no_x := by
  refine Ct.of (own := RX0) (lc := [(0, .ref (ad 1)), (1, vi d)]) (by decide +kernel) hfl (Nat.le_of_ble_eq_true rfl) rfl rfl ?_
  intro p e s m args below meth c A C hex hnm
  generalize hQ : vx_MQ below (Qo D (fun v ws2 => v = some (vi (bI (wk h d))) ∧ ws2 = kl cy ad M) A) (Xo D no_x A) args s 0 0 A = Q
  replace hQ := hQ.symm
  refine V.iload_n C dX0_works_0 1 rfl ?_
  refine V.callN C (As := [vi d]) (st := []) (wr := []) (by decide : (RX0, 26) ∈ xNest) (c_isDay l D cy sa hfl _ d ⟨by omega, by omega⟩) rfl rfl rfl (Nat.le_of_ble_eq_true rfl) ⟨by decide, by decide⟩ ⟨by decide, by decide⟩ dX0_works_1 (fun _ _ h => h.elim) (fun v1 w2 r3 => ?_)
  obtain ⟨rfl, rfl⟩ := r3
  show V D 2 A p l e (rmL 1 0 0) s m args below meth c Q 0 0 (kl cy ad M) 4 [(0, .ref (ad 1)), (1, vi d)] [vi (bI (isDy d))]
  refine V.if_eqB C 28 dX0_works_4 (by decide) (fun h4 => (by rw [isDy_t (by omega) (by omega)] at h4; exact absurd h4 (by decide))) (fun h4 => ?_)
  refine V.iload_n C dX0_works_7 1 rfl ?_
  refine V.bipush C dX0_works_8 (by decide) ?_
  refine V.irem C dX0_works_10 ⟨by omega, by omega⟩ (by omega) ⟨by omega, by omega⟩ (by omega) ?_
  refine V.iconst C dX0_works_11 ?_
  refine V.icmp_ge C 28 dX0_works_12 (by decide) ⟨by omega, by omega⟩ ⟨by decide, by decide⟩ (fun h12 => ?_) (fun h12 => ?_)
  · skip
    refine V.iconst C dX0_works_28 ?_
    show V D 2 A p l e (rmL 1 0 0) s m args below meth c Q 0 0 (kl cy ad M) 29 [(0, .ref (ad 1)), (1, vi d)] [vi (bI false)]
    rw [hQ]
    exact V.zret C dX0_works_29 (by decide) (by decide) (⟨rb (by first | exact wk_f1 h12 | exact wk_f2 h21 | exact wk_t h12 h21), rfl⟩)
  · skip
    refine V.aload_n C dX0_works_15 0 rfl ?_
    refine V.getf C (v := .ref (ad 2)) 0 rfl rfl inX0 0 (by decide) fl_X0_9 (fun _ h => h) rfl dX0_works_16 ?_
    refine V.iload_n C dX0_works_19 1 rfl ?_
    refine V.zald C (v := bI (h d)) 1 rfl (by omega) (by omega) (by decide) (ld_ar (by omega) (hh d h0 h1)) dX0_works_20 ?_
    refine V.if_neB C 28 dX0_works_21 (by decide) (fun h21 => ?_) (fun h21 => ?_)
    · skip
      refine V.iconst C dX0_works_28 ?_
      show V D 2 A p l e (rmL 1 0 0) s m args below meth c Q 0 0 (kl cy ad M) 29 [(0, .ref (ad 1)), (1, vi d)] [vi (bI false)]
      rw [hQ]
      exact V.zret C dX0_works_29 (by decide) (by decide) (⟨rb (by first | exact wk_f1 h12 | exact wk_f2 h21 | exact wk_t h12 h21), rfl⟩)
    · skip
      refine V.iconst C dX0_works_24 ?_
      refine V.goto C 29 dX0_works_25 (by decide) ?_
      show V D 2 A p l e (rmL 1 0 0) s m args below meth c Q 0 0 (kl cy ad M) 29 [(0, .ref (ad 1)), (1, vi d)] [vi (bI true)]
      rw [hQ]
      exact V.zret C dX0_works_29 (by decide) (by decide) (⟨rb (by first | exact wk_f1 h12 | exact wk_f2 h21 | exact wk_t h12 h21), rfl⟩)
set_option maxHeartbeats 4000000 in
set_option maxRecDepth 100000 in
theorem c_works_R (l : Launch) (D : va_G) (cy : Nat → ClassId) (sa : Nat → Addr) (hfl : l.stackTraces = false) (ad : Nat → Nat) (i : Nat) (M : Nat → Int → Int) (h : Int → Bool) (d : Int) (h0 : 0 ≤ d) (h1 : d < 720) (hh : CH h M) : Ct l D cy sa yX0_works cX0_works 2 (some .boolean) 1 0 0 (rl cy ad i M) [.ref (ad 1), vi d] (fun v ws2 => v = some (vi (bI (wk h d))) ∧ ws2 = rl cy ad i M) no_x := by
  refine Ct.of (own := RX0) (lc := [(0, .ref (ad 1)), (1, vi d)]) (by decide +kernel) hfl (Nat.le_of_ble_eq_true rfl) rfl rfl ?_
  intro p e s m args below meth c A C hex hnm
  generalize hQ : vx_MQ below (Qo D (fun v ws2 => v = some (vi (bI (wk h d))) ∧ ws2 = rl cy ad i M) A) (Xo D no_x A) args s 0 0 A = Q
  replace hQ := hQ.symm
  refine V.iload_n C dX0_works_0 1 rfl ?_
  refine V.callN C (As := [vi d]) (st := []) (wr := []) (by decide : (RX0, 26) ∈ xNest) (c_isDay l D cy sa hfl _ d ⟨by omega, by omega⟩) rfl rfl rfl (Nat.le_of_ble_eq_true rfl) ⟨by decide, by decide⟩ ⟨by decide, by decide⟩ dX0_works_1 (fun _ _ h => h.elim) (fun v1 w2 r3 => ?_)
  obtain ⟨rfl, rfl⟩ := r3
  show V D 2 A p l e (rmL 1 0 0) s m args below meth c Q 0 0 (rl cy ad i M) 4 [(0, .ref (ad 1)), (1, vi d)] [vi (bI (isDy d))]
  refine V.if_eqB C 28 dX0_works_4 (by decide) (fun h4 => (by rw [isDy_t (by omega) (by omega)] at h4; exact absurd h4 (by decide))) (fun h4 => ?_)
  refine V.iload_n C dX0_works_7 1 rfl ?_
  refine V.bipush C dX0_works_8 (by decide) ?_
  refine V.irem C dX0_works_10 ⟨by omega, by omega⟩ (by omega) ⟨by omega, by omega⟩ (by omega) ?_
  refine V.iconst C dX0_works_11 ?_
  refine V.icmp_ge C 28 dX0_works_12 (by decide) ⟨by omega, by omega⟩ ⟨by decide, by decide⟩ (fun h12 => ?_) (fun h12 => ?_)
  · skip
    refine V.iconst C dX0_works_28 ?_
    show V D 2 A p l e (rmL 1 0 0) s m args below meth c Q 0 0 (rl cy ad i M) 29 [(0, .ref (ad 1)), (1, vi d)] [vi (bI false)]
    rw [hQ]
    exact V.zret C dX0_works_29 (by decide) (by decide) (⟨rb (by first | exact wk_f1 h12 | exact wk_f2 h21 | exact wk_t h12 h21), rfl⟩)
  · skip
    refine V.aload_n C dX0_works_15 0 rfl ?_
    refine V.getf C (v := .ref (ad 2)) 2 rfl rfl inX0 0 (by decide) fl_X0_9 (fun _ h => h) rfl dX0_works_16 ?_
    refine V.iload_n C dX0_works_19 1 rfl ?_
    refine V.zald C (v := bI (h d)) 3 rfl (by omega) (by omega) (by decide) (ld_ar (by omega) (hh d h0 h1)) dX0_works_20 ?_
    refine V.if_neB C 28 dX0_works_21 (by decide) (fun h21 => ?_) (fun h21 => ?_)
    · skip
      refine V.iconst C dX0_works_28 ?_
      show V D 2 A p l e (rmL 1 0 0) s m args below meth c Q 0 0 (rl cy ad i M) 29 [(0, .ref (ad 1)), (1, vi d)] [vi (bI false)]
      rw [hQ]
      exact V.zret C dX0_works_29 (by decide) (by decide) (⟨rb (by first | exact wk_f1 h12 | exact wk_f2 h21 | exact wk_t h12 h21), rfl⟩)
    · skip
      refine V.iconst C dX0_works_24 ?_
      refine V.goto C 29 dX0_works_25 (by decide) ?_
      show V D 2 A p l e (rmL 1 0 0) s m args below meth c Q 0 0 (rl cy ad i M) 29 [(0, .ref (ad 1)), (1, vi d)] [vi (bI true)]
      rw [hQ]
      exact V.zret C dX0_works_29 (by decide) (by decide) (⟨rb (by first | exact wk_f1 h12 | exact wk_f2 h21 | exact wk_t h12 h21), rfl⟩)
set_option maxHeartbeats 4000000 in
set_option maxRecDepth 100000 in
theorem c_works (l : Launch) (D : va_G) (cy : Nat → ClassId) (sa : Nat → Addr) (hfl : l.stackTraces = false) (ad : Nat → Nat) (n : Nat) (M : Nat → Int → Int) (h : Int → Bool) (d : Int) (h0 : 0 ≤ d) (h1 : d < 720) (hh : CH h M) : Ct l D cy sa yX0_works cX0_works 2 (some .boolean) 1 0 0 (cl cy (sa 100) ad n M) [.ref (ad 1), vi d] (fun v ws2 => v = some (vi (bI (wk h d))) ∧ ws2 = cl cy (sa 100) ad n M) no_x := by
  refine Ct.of (own := RX0) (lc := [(0, .ref (ad 1)), (1, vi d)]) (by decide +kernel) hfl (Nat.le_of_ble_eq_true rfl) rfl rfl ?_
  intro p e s m args below meth c A C hex hnm
  generalize hQ : vx_MQ below (Qo D (fun v ws2 => v = some (vi (bI (wk h d))) ∧ ws2 = cl cy (sa 100) ad n M) A) (Xo D no_x A) args s 0 0 A = Q
  replace hQ := hQ.symm
  refine V.iload_n C dX0_works_0 1 rfl ?_
  refine V.callN C (As := [vi d]) (st := []) (wr := []) (by decide : (RX0, 26) ∈ xNest) (c_isDay l D cy sa hfl _ d ⟨by omega, by omega⟩) rfl rfl rfl (Nat.le_of_ble_eq_true rfl) ⟨by decide, by decide⟩ ⟨by decide, by decide⟩ dX0_works_1 (fun _ _ h => h.elim) (fun v1 w2 r3 => ?_)
  obtain ⟨rfl, rfl⟩ := r3
  show V D 2 A p l e (rmL 1 0 0) s m args below meth c Q 0 0 (cl cy (sa 100) ad n M) 4 [(0, .ref (ad 1)), (1, vi d)] [vi (bI (isDy d))]
  refine V.if_eqB C 28 dX0_works_4 (by decide) (fun h4 => (by rw [isDy_t (by omega) (by omega)] at h4; exact absurd h4 (by decide))) (fun h4 => ?_)
  refine V.iload_n C dX0_works_7 1 rfl ?_
  refine V.bipush C dX0_works_8 (by decide) ?_
  refine V.irem C dX0_works_10 ⟨by omega, by omega⟩ (by omega) ⟨by omega, by omega⟩ (by omega) ?_
  refine V.iconst C dX0_works_11 ?_
  refine V.icmp_ge C 28 dX0_works_12 (by decide) ⟨by omega, by omega⟩ ⟨by decide, by decide⟩ (fun h12 => ?_) (fun h12 => ?_)
  · skip
    refine V.iconst C dX0_works_28 ?_
    show V D 2 A p l e (rmL 1 0 0) s m args below meth c Q 0 0 (cl cy (sa 100) ad n M) 29 [(0, .ref (ad 1)), (1, vi d)] [vi (bI false)]
    rw [hQ]
    exact V.zret C dX0_works_29 (by decide) (by decide) (⟨rb (by first | exact wk_f1 h12 | exact wk_f2 h21 | exact wk_t h12 h21), rfl⟩)
  · skip
    refine V.aload_n C dX0_works_15 0 rfl ?_
    refine V.getf C (v := .ref (ad 2)) 1 cl_1 rfl inX0 0 (by decide) fl_X0_9 (fun _ h => h) rfl dX0_works_16 ?_
    refine V.iload_n C dX0_works_19 1 rfl ?_
    refine V.zald C (v := bI (h d)) 2 cl_2 (by omega) (by omega) (by decide) (ld_ar (by omega) (hh d h0 h1)) dX0_works_20 ?_
    refine V.if_neB C 28 dX0_works_21 (by decide) (fun h21 => ?_) (fun h21 => ?_)
    · skip
      refine V.iconst C dX0_works_28 ?_
      show V D 2 A p l e (rmL 1 0 0) s m args below meth c Q 0 0 (cl cy (sa 100) ad n M) 29 [(0, .ref (ad 1)), (1, vi d)] [vi (bI false)]
      rw [hQ]
      exact V.zret C dX0_works_29 (by decide) (by decide) (⟨rb (by first | exact wk_f1 h12 | exact wk_f2 h21 | exact wk_t h12 h21), rfl⟩)
    · skip
      refine V.iconst C dX0_works_24 ?_
      refine V.goto C 29 dX0_works_25 (by decide) ?_
      show V D 2 A p l e (rmL 1 0 0) s m args below meth c Q 0 0 (cl cy (sa 100) ad n M) 29 [(0, .ref (ad 1)), (1, vi d)] [vi (bI true)]
      rw [hQ]
      exact V.zret C dX0_works_29 (by decide) (by decide) (⟨rb (by first | exact wk_f1 h12 | exact wk_f2 h21 | exact wk_t h12 h21), rfl⟩)
set_option maxHeartbeats 4000000 in
set_option maxRecDepth 100000 in
theorem c_numberFromStart_R (l : Launch) (D : va_G) (cy : Nat → ClassId) (sa : Nat → Addr) (hfl : l.stackTraces = false) (ad : Nat → Nat) (i : Nat) (M : Nat → Int → Int) (d : Int) (h0 : 0 ≤ d) (h1 : d < 720) : Ct l D cy sa yX0_numberFromStart cX0_numberFromStart 2 (some .int) 1 0 0 (rl cy ad i M) [.ref (ad 1), vi d] (fun v ws2 => v = some (vi (M 3 d)) ∧ ws2 = rl cy ad i M) no_x := by
  refine Ct.of (own := RX0) (lc := [(0, .ref (ad 1)), (1, vi d)]) (by decide +kernel) hfl (Nat.le_of_ble_eq_true rfl) rfl rfl ?_
  intro p e s m args below meth c A C hex hnm
  generalize hQ : vx_MQ below (Qo D (fun v ws2 => v = some (vi (M 3 d)) ∧ ws2 = rl cy ad i M) A) (Xo D no_x A) args s 0 0 A = Q
  replace hQ := hQ.symm
  refine V.iload_n C dX0_numberFromStart_0 1 rfl ?_
  refine V.callN C (As := [vi d]) (st := []) (wr := []) (by decide : (RX0, 26) ∈ xNest) (c_isDay l D cy sa hfl _ d ⟨by omega, by omega⟩) rfl rfl rfl (Nat.le_of_ble_eq_true rfl) ⟨by decide, by decide⟩ ⟨by decide, by decide⟩ dX0_numberFromStart_1 (fun _ _ h => h.elim) (fun v1 w2 r3 => ?_)
  obtain ⟨rfl, rfl⟩ := r3
  show V D 2 A p l e (rmL 1 0 0) s m args below meth c Q 0 0 (rl cy ad i M) 4 [(0, .ref (ad 1)), (1, vi d)] [vi (bI (isDy d))]
  refine V.if_eqB C 16 dX0_numberFromStart_4 (by decide) (fun h4 => (by rw [isDy_t (by omega) (by omega)] at h4; exact absurd h4 (by decide))) (fun h4 => ?_)
  refine V.aload_n C dX0_numberFromStart_7 0 rfl ?_
  refine V.getf C (v := .ref (ad 3)) 2 rfl rfl inX0 1 (by decide) fl_X0_15 (fun _ h => h) rfl dX0_numberFromStart_8 ?_
  refine V.iload_n C dX0_numberFromStart_11 1 rfl ?_
  refine V.iald C (v := M 3 d) 4 rfl (by omega) (by omega) (by decide) (ld_ar (by omega) rfl) dX0_numberFromStart_12 ?_
  refine V.goto C 17 dX0_numberFromStart_13 (by decide) ?_
  rw [hQ]
  exact V.iret C dX0_numberFromStart_17 (by decide) (by decide) (⟨rfl, rfl⟩)
set_option maxHeartbeats 4000000 in
set_option maxRecDepth 100000 in
theorem c_numberFromEnd_R (l : Launch) (D : va_G) (cy : Nat → ClassId) (sa : Nat → Addr) (hfl : l.stackTraces = false) (ad : Nat → Nat) (i : Nat) (M : Nat → Int → Int) (d : Int) (h0 : 0 ≤ d) (h1 : d < 720) : Ct l D cy sa yX0_numberFromEnd cX0_numberFromEnd 2 (some .int) 1 0 0 (rl cy ad i M) [.ref (ad 1), vi d] (fun v ws2 => v = some (vi (M 4 d)) ∧ ws2 = rl cy ad i M) no_x := by
  refine Ct.of (own := RX0) (lc := [(0, .ref (ad 1)), (1, vi d)]) (by decide +kernel) hfl (Nat.le_of_ble_eq_true rfl) rfl rfl ?_
  intro p e s m args below meth c A C hex hnm
  generalize hQ : vx_MQ below (Qo D (fun v ws2 => v = some (vi (M 4 d)) ∧ ws2 = rl cy ad i M) A) (Xo D no_x A) args s 0 0 A = Q
  replace hQ := hQ.symm
  refine V.iload_n C dX0_numberFromEnd_0 1 rfl ?_
  refine V.callN C (As := [vi d]) (st := []) (wr := []) (by decide : (RX0, 26) ∈ xNest) (c_isDay l D cy sa hfl _ d ⟨by omega, by omega⟩) rfl rfl rfl (Nat.le_of_ble_eq_true rfl) ⟨by decide, by decide⟩ ⟨by decide, by decide⟩ dX0_numberFromEnd_1 (fun _ _ h => h.elim) (fun v1 w2 r3 => ?_)
  obtain ⟨rfl, rfl⟩ := r3
  show V D 2 A p l e (rmL 1 0 0) s m args below meth c Q 0 0 (rl cy ad i M) 4 [(0, .ref (ad 1)), (1, vi d)] [vi (bI (isDy d))]
  refine V.if_eqB C 16 dX0_numberFromEnd_4 (by decide) (fun h4 => (by rw [isDy_t (by omega) (by omega)] at h4; exact absurd h4 (by decide))) (fun h4 => ?_)
  refine V.aload_n C dX0_numberFromEnd_7 0 rfl ?_
  refine V.getf C (v := .ref (ad 4)) 2 rfl rfl inX0 2 (by decide) fl_X0_19 (fun _ h => h) rfl dX0_numberFromEnd_8 ?_
  refine V.iload_n C dX0_numberFromEnd_11 1 rfl ?_
  refine V.iald C (v := M 4 d) 5 rfl (by omega) (by omega) (by decide) (ld_ar (by omega) rfl) dX0_numberFromEnd_12 ?_
  refine V.goto C 17 dX0_numberFromEnd_13 (by decide) ?_
  rw [hQ]
  exact V.iret C dX0_numberFromEnd_17 (by decide) (by decide) (⟨rfl, rfl⟩)
set_option maxHeartbeats 4000000 in
set_option maxRecDepth 100000 in
theorem c_numberFromStart (l : Launch) (D : va_G) (cy : Nat → ClassId) (sa : Nat → Addr) (hfl : l.stackTraces = false) (ad : Nat → Nat) (n : Nat) (M : Nat → Int → Int) (d : Int) (h0 : 0 ≤ d) (h1 : d < 720) : Ct l D cy sa yX0_numberFromStart cX0_numberFromStart 2 (some .int) 1 0 0 (cl cy (sa 100) ad n M) [.ref (ad 1), vi d] (fun v ws2 => v = some (vi (M 3 d)) ∧ ws2 = cl cy (sa 100) ad n M) no_x := by
  refine Ct.of (own := RX0) (lc := [(0, .ref (ad 1)), (1, vi d)]) (by decide +kernel) hfl (Nat.le_of_ble_eq_true rfl) rfl rfl ?_
  intro p e s m args below meth c A C hex hnm
  generalize hQ : vx_MQ below (Qo D (fun v ws2 => v = some (vi (M 3 d)) ∧ ws2 = cl cy (sa 100) ad n M) A) (Xo D no_x A) args s 0 0 A = Q
  replace hQ := hQ.symm
  refine V.iload_n C dX0_numberFromStart_0 1 rfl ?_
  refine V.callN C (As := [vi d]) (st := []) (wr := []) (by decide : (RX0, 26) ∈ xNest) (c_isDay l D cy sa hfl _ d ⟨by omega, by omega⟩) rfl rfl rfl (Nat.le_of_ble_eq_true rfl) ⟨by decide, by decide⟩ ⟨by decide, by decide⟩ dX0_numberFromStart_1 (fun _ _ h => h.elim) (fun v1 w2 r3 => ?_)
  obtain ⟨rfl, rfl⟩ := r3
  show V D 2 A p l e (rmL 1 0 0) s m args below meth c Q 0 0 (cl cy (sa 100) ad n M) 4 [(0, .ref (ad 1)), (1, vi d)] [vi (bI (isDy d))]
  refine V.if_eqB C 16 dX0_numberFromStart_4 (by decide) (fun h4 => (by rw [isDy_t (by omega) (by omega)] at h4; exact absurd h4 (by decide))) (fun h4 => ?_)
  refine V.aload_n C dX0_numberFromStart_7 0 rfl ?_
  refine V.getf C (v := .ref (ad 3)) 1 cl_1 rfl inX0 1 (by decide) fl_X0_15 (fun _ h => h) rfl dX0_numberFromStart_8 ?_
  refine V.iload_n C dX0_numberFromStart_11 1 rfl ?_
  refine V.iald C (v := M 3 d) 3 cl_3 (by omega) (by omega) (by decide) (ld_ar (by omega) rfl) dX0_numberFromStart_12 ?_
  refine V.goto C 17 dX0_numberFromStart_13 (by decide) ?_
  rw [hQ]
  exact V.iret C dX0_numberFromStart_17 (by decide) (by decide) (⟨rfl, rfl⟩)
set_option maxHeartbeats 4000000 in
set_option maxRecDepth 100000 in
theorem c_numberFromEnd (l : Launch) (D : va_G) (cy : Nat → ClassId) (sa : Nat → Addr) (hfl : l.stackTraces = false) (ad : Nat → Nat) (n : Nat) (M : Nat → Int → Int) (d : Int) (h0 : 0 ≤ d) (h1 : d < 720) : Ct l D cy sa yX0_numberFromEnd cX0_numberFromEnd 2 (some .int) 1 0 0 (cl cy (sa 100) ad n M) [.ref (ad 1), vi d] (fun v ws2 => v = some (vi (M 4 d)) ∧ ws2 = cl cy (sa 100) ad n M) no_x := by
  refine Ct.of (own := RX0) (lc := [(0, .ref (ad 1)), (1, vi d)]) (by decide +kernel) hfl (Nat.le_of_ble_eq_true rfl) rfl rfl ?_
  intro p e s m args below meth c A C hex hnm
  generalize hQ : vx_MQ below (Qo D (fun v ws2 => v = some (vi (M 4 d)) ∧ ws2 = cl cy (sa 100) ad n M) A) (Xo D no_x A) args s 0 0 A = Q
  replace hQ := hQ.symm
  refine V.iload_n C dX0_numberFromEnd_0 1 rfl ?_
  refine V.callN C (As := [vi d]) (st := []) (wr := []) (by decide : (RX0, 26) ∈ xNest) (c_isDay l D cy sa hfl _ d ⟨by omega, by omega⟩) rfl rfl rfl (Nat.le_of_ble_eq_true rfl) ⟨by decide, by decide⟩ ⟨by decide, by decide⟩ dX0_numberFromEnd_1 (fun _ _ h => h.elim) (fun v1 w2 r3 => ?_)
  obtain ⟨rfl, rfl⟩ := r3
  show V D 2 A p l e (rmL 1 0 0) s m args below meth c Q 0 0 (cl cy (sa 100) ad n M) 4 [(0, .ref (ad 1)), (1, vi d)] [vi (bI (isDy d))]
  refine V.if_eqB C 16 dX0_numberFromEnd_4 (by decide) (fun h4 => (by rw [isDy_t (by omega) (by omega)] at h4; exact absurd h4 (by decide))) (fun h4 => ?_)
  refine V.aload_n C dX0_numberFromEnd_7 0 rfl ?_
  refine V.getf C (v := .ref (ad 4)) 1 cl_1 rfl inX0 2 (by decide) fl_X0_19 (fun _ h => h) rfl dX0_numberFromEnd_8 ?_
  refine V.iload_n C dX0_numberFromEnd_11 1 rfl ?_
  refine V.iald C (v := M 4 d) 4 cl_4 (by omega) (by omega) (by decide) (ld_ar (by omega) rfl) dX0_numberFromEnd_12 ?_
  refine V.goto C 17 dX0_numberFromEnd_13 (by decide) ?_
  rw [hQ]
  exact V.iret C dX0_numberFromEnd_17 (by decide) (by decide) (⟨rfl, rfl⟩)
set_option maxHeartbeats 4000000 in
set_option maxRecDepth 100000 in
theorem c_numberMonthOf_K (l : Launch) (D : va_G) (cy : Nat → ClassId) (sa : Nat → Addr) (hfl : l.stackTraces = false) (ad : Nat → Nat) (M : Nat → Int → Int) (h : Int → Bool) (day : Int) (h0 : 0 ≤ day) (h1 : day < 720) (hh : CH h M) : Ct l D cy sa yX0_numberMonthOf cX0_numberMonthOf 6 none 2 0 0 (kl cy ad M) [.ref (ad 1), vi day] (fun v ws2 => v = none ∧ ∃ M2, ws2 = kl cy ad M2 ∧ mon h day M M2) no_x := by
  refine Ct.of (own := RX0) (lc := [(0, .ref (ad 1)), (1, vi day)]) (by decide +kernel) hfl (Nat.le_of_ble_eq_true rfl) rfl rfl ?_
  intro p e s m args below meth c A C hex hnm
  generalize hQ : vx_MQ below (Qo D (fun v ws2 => v = none ∧ ∃ M2, ws2 = kl cy ad M2 ∧ mon h day M M2) A) (Xo D no_x A) args s 0 0 A = Q
  replace hQ := hQ.symm
  obtain ⟨a, ha⟩ : ∃ a, a = day - day % 30 := ⟨_, rfl⟩
  refine V.iload_n C dX0_numberMonthOf_0 1 rfl ?_
  refine V.iload_n C dX0_numberMonthOf_1 1 rfl ?_
  refine V.bipush C dX0_numberMonthOf_2 (by decide) ?_
  refine V.irem C dX0_numberMonthOf_4 ⟨by omega, by omega⟩ (by omega) ⟨by omega, by omega⟩ (by omega) ?_
  refine V.isub C dX0_numberMonthOf_5 ?_
  rw [show (day - (day % 30)) = a from (ha.symm)]
  refine V.istore_n C (lc2 := [(2, vi a), (0, .ref (ad 1)), (1, vi day)]) dX0_numberMonthOf_6 (by decide) rfl ?_
  refine V.iload_n C dX0_numberMonthOf_7 0 rfl ?_
  refine V.bipush C dX0_numberMonthOf_8 (by decide) ?_
  refine V.iadd C dX0_numberMonthOf_10 ?_
  refine V.iconst C dX0_numberMonthOf_11 ?_
  refine V.isub C dX0_numberMonthOf_12 ?_
  refine V.istore_n C (lc2 := [(3, vi ((a + 30) - 1)), (2, vi a), (0, .ref (ad 1)), (1, vi day)]) dX0_numberMonthOf_13 (by decide) rfl ?_
  refine V.iconst C dX0_numberMonthOf_14 ?_
  refine V.istore C (lc2 := [(4, vi 0), (3, vi ((a + 30) - 1)), (2, vi a), (0, .ref (ad 1)), (1, vi day)]) dX0_numberMonthOf_15 (by decide) rfl ?_
  refine V.iload_n C dX0_numberMonthOf_17 2 rfl ?_
  refine V.istore C (lc2 := [(5, vi a), (4, vi 0), (3, vi ((a + 30) - 1)), (2, vi a), (0, .ref (ad 1)), (1, vi day)]) dX0_numberMonthOf_18 (by decide) rfl ?_
  have loop20 : ∀ (f : Nat) (d : Int) (w : Int) (M1 : Nat → Int → Int), (a ≤ d) → (d ≤ a + 30) → (w = ct (wk h) a d) → (∀ k, k ≠ 3 → M1 k = M k) → (∀ j, M1 3 j = if a ≤ j ∧ j < d then NS h j else M 3 j) → ((a + 30 - d).toNat < f) → V D 6 A p l e (rmL 2 0 0) s m args below meth c Q 0 0 (kl cy ad M1) 20 [(5, vi d), (4, vi w), (3, vi (a + 30 - 1)), (2, vi a), (0, .ref (ad 1)), (1, vi day)] [] := by
    intro f
    induction f with
    | zero => intro d w M1 e1 e2 e3 e4 e5 hf; exact absurd hf (Nat.not_lt_zero _)
    | succ f ih20 =>
      intro d w M1 e1 e2 e3 e4 e5 hf20
      refine V.iload C dX0_numberMonthOf_20 0 rfl ?_
      refine V.iload_n C dX0_numberMonthOf_22 2 rfl ?_
      refine V.icmp_gt C 74 dX0_numberMonthOf_23 (by decide) ⟨by omega, by omega⟩ ⟨by omega, by omega⟩ (fun h23 => ?_) (fun h23 => ?_)
      · skip
        refine V.iload_n C dX0_numberMonthOf_74 3 rfl ?_
        refine V.istore C (lc2 := [(5, vi a), (4, vi w), (3, vi (a + 30 - 1)), (2, vi a), (0, .ref (ad 1)), (1, vi day)]) dX0_numberMonthOf_75 (by decide) rfl ?_
        have loop77 : ∀ (f : Nat) (d : Int) (M2 : Nat → Int → Int), (a ≤ d) → (d ≤ a + 30) → (∀ k, k ≠ 3 → k ≠ 4 → M2 k = M k) → (∀ j, M2 3 j = if a ≤ j ∧ j < a + 30 then NS h j else M 3 j) → (∀ j, M2 4 j = if a ≤ j ∧ j < d then NE h j else M 4 j) → ((a + 30 - d).toNat < f) → V D 6 A p l e (rmL 2 0 0) s m args below meth c Q 0 0 (kl cy ad M2) 77 [(5, vi d), (4, vi (ct (wk h) a (a + 30))), (3, vi (a + 30 - 1)), (2, vi a), (0, .ref (ad 1)), (1, vi day)] [] := by
          intro f
          induction f with
          | zero => intro d M2 g1 g2 g4 g3 g5 hf; exact absurd hf (Nat.not_lt_zero _)
          | succ f ih77 =>
            intro d M2 g1 g2 g4 g3 g5 hf77
            refine V.iload C dX0_numberMonthOf_77 0 rfl ?_
            refine V.iload_n C dX0_numberMonthOf_79 2 rfl ?_
            refine V.icmp_gt C 129 dX0_numberMonthOf_80 (by decide) ⟨by omega, by omega⟩ ⟨by omega, by omega⟩ (fun h80 => ?_) (fun h80 => ?_)
            · skip
              rw [hQ]
              exact V.vret C dX0_numberMonthOf_129 (by decide) (by decide) (⟨rfl, M2, rfl, g4, by rw [← ha]; exact g3, fun d1 => by have := g5 d1; rw [show d = a + 30 by omega, ha] at this; exact this⟩)
            · skip
              refine V.iload C dX0_numberMonthOf_83 0 rfl ?_
              refine V.callN C (As := [vi d]) (st := []) (wr := []) (by decide : (RX0, 26) ∈ xNest) (c_isDay l D cy sa hfl _ d ⟨by omega, by omega⟩) rfl rfl rfl (Nat.le_of_ble_eq_true rfl) ⟨by decide, by decide⟩ ⟨by decide, by decide⟩ dX0_numberMonthOf_85 (fun _ _ h => h.elim) (fun v1 w2 r3 => ?_)
              obtain ⟨rfl, rfl⟩ := r3
              show V D 6 A p l e (rmL 2 0 0) s m args below meth c Q 0 0 (kl cy ad M2) 88 [(5, vi d), (4, vi (ct (wk h) a (a + 30))), (3, vi (a + 30 - 1)), (2, vi a), (0, .ref (ad 1)), (1, vi day)] [vi (bI (isDy d))]
              refine V.if_eqB C 129 dX0_numberMonthOf_88 (by decide) (fun h88 => (by rw [isDy_t (by omega) (by omega)] at h88; exact absurd h88 (by decide))) (fun h88 => ?_)
              refine V.aload_n C dX0_numberMonthOf_91 4 rfl ?_
              refine V.getf C (v := .ref (ad 4)) 0 rfl rfl inX0 2 (by decide) fl_X0_19 (fun _ h => h) rfl dX0_numberMonthOf_92 ?_
              refine V.iload C dX0_numberMonthOf_95 0 rfl ?_
              refine V.aload_n C dX0_numberMonthOf_97 4 rfl ?_
              refine V.iload C dX0_numberMonthOf_98 0 rfl ?_
              refine V.callV C (As := [vi d]) (st := [vi d, .ref (ad 4)]) (wr := []) kV_X0_30 (c_works_K l D cy sa hfl ad M2 h d (by omega) (by omega) (hh.same (g4 2 (by decide) (by decide)))) rfl 0 rfl rfl rfl rfl (Nat.le_of_ble_eq_true rfl) ⟨by decide, by decide⟩ ⟨by decide, by decide⟩ dX0_numberMonthOf_100 (fun _ _ h => h.elim) (fun v4 w5 r6 => ?_)
              obtain ⟨rfl, rfl⟩ := r6
              show V D 6 A p l e (rmL 2 0 0) s m args below meth c Q 0 0 (kl cy ad M2) 103 [(5, vi d), (4, vi (ct (wk h) a (a + 30))), (3, vi (a + 30 - 1)), (2, vi a), (0, .ref (ad 1)), (1, vi day)] [vi (bI (wk h d)), vi d, .ref (ad 4)]
              refine V.if_eqB C 121 dX0_numberMonthOf_103 (by decide) (fun h103 => ?_) (fun h103 => ?_)
              · skip
                refine V.iconst C dX0_numberMonthOf_121 ?_
                refine V.iast C 3 rfl (by omega) (by omega) (by decide) dX0_numberMonthOf_122 (kput_4 (by omega)) ?_
                refine V.iinc C (lc2 := [(5, vi (d + 1)), (4, vi (ct (wk h) a (a + 30))), (3, vi (a + 30 - 1)), (2, vi a), (0, .ref (ad 1)), (1, vi day)]) dX0_numberMonthOf_123 0 rfl (by decide) rfl ?_
                refine V.goto C 77 dX0_numberMonthOf_126 (by decide) ?_
                exact ih77 (d + 1) (upM M2 4 d 0) (by omega) (by omega) (fun k h3 h4 => (upM_off h4).trans (g4 k h3 h4)) (by rw [upM_off (by decide)]; exact g3) (fill_up g5 g1 (by first | exact ne_t g1 (by omega) (by omega) h103 (by have := g3 d; rw [if_pos ⟨g1, by omega⟩] at this ⊢; exact this) | exact ne_f h103)) (by omega)
              · skip
                refine V.iload C dX0_numberMonthOf_106 1 rfl ?_
                refine V.iconst C dX0_numberMonthOf_108 ?_
                refine V.iadd C dX0_numberMonthOf_109 ?_
                refine V.aload_n C dX0_numberMonthOf_110 4 rfl ?_
                refine V.getf C (v := .ref (ad 3)) 0 rfl rfl inX0 1 (by decide) fl_X0_15 (fun _ h => h) rfl dX0_numberMonthOf_111 ?_
                refine V.iload C dX0_numberMonthOf_114 0 rfl ?_
                refine V.iald C (v := M2 3 d) 2 rfl (by omega) (by omega) (by decide) (ld_ar (by omega) rfl) dX0_numberMonthOf_116 ?_
                refine V.isub C dX0_numberMonthOf_117 ?_
                refine V.goto C 122 dX0_numberMonthOf_118 (by decide) ?_
                refine V.iast C 3 rfl (by omega) (by omega) (by decide) dX0_numberMonthOf_122 (kput_4 (by omega)) ?_
                refine V.iinc C (lc2 := [(5, vi (d + 1)), (4, vi (ct (wk h) a (a + 30))), (3, vi (a + 30 - 1)), (2, vi a), (0, .ref (ad 1)), (1, vi day)]) dX0_numberMonthOf_123 0 rfl (by decide) rfl ?_
                refine V.goto C 77 dX0_numberMonthOf_126 (by decide) ?_
                exact ih77 (d + 1) (upM M2 4 d (((ct (wk h) a (a + 30)) + 1) - (M2 3 d))) (by omega) (by omega) (fun k h3 h4 => (upM_off h4).trans (g4 k h3 h4)) (by rw [upM_off (by decide)]; exact g3) (fill_up g5 g1 (by first | exact ne_t g1 (by omega) (by omega) h103 (by have := g3 d; rw [if_pos ⟨g1, by omega⟩] at this ⊢; exact this) | exact ne_f h103)) (by omega)
        rw [show w = ct (wk h) a (a + 30) by rw [e3]; congr 1; omega]
        exact loop77 _ a M1 (by omega) (by omega) (fun k h3 _ => e4 k h3) (by rw [show d = a + 30 by omega] at e5; exact e5) (fill_0 fun j => by rw [e4 4 (by decide)]) (Nat.lt_succ_self _)
      · skip
        refine V.iload C dX0_numberMonthOf_26 0 rfl ?_
        refine V.callN C (As := [vi d]) (st := []) (wr := []) (by decide : (RX0, 26) ∈ xNest) (c_isDay l D cy sa hfl _ d ⟨by omega, by omega⟩) rfl rfl rfl (Nat.le_of_ble_eq_true rfl) ⟨by decide, by decide⟩ ⟨by decide, by decide⟩ dX0_numberMonthOf_28 (fun _ _ h => h.elim) (fun v7 w8 r9 => ?_)
        obtain ⟨rfl, rfl⟩ := r9
        show V D 6 A p l e (rmL 2 0 0) s m args below meth c Q 0 0 (kl cy ad M1) 31 [(5, vi d), (4, vi w), (3, vi (a + 30 - 1)), (2, vi a), (0, .ref (ad 1)), (1, vi day)] [vi (bI (isDy d))]
        refine V.if_eqB C 74 dX0_numberMonthOf_31 (by decide) (fun h31 => (by rw [isDy_t (by omega) (by omega)] at h31; exact absurd h31 (by decide))) (fun h31 => ?_)
        refine V.aload_n C dX0_numberMonthOf_34 4 rfl ?_
        refine V.iload C dX0_numberMonthOf_35 0 rfl ?_
        refine V.callV C (As := [vi d]) (st := []) (wr := []) kV_X0_30 (c_works_K l D cy sa hfl ad M1 h d (by omega) (by omega) (hh.same (e4 2 (by decide)))) rfl 0 rfl rfl rfl rfl (Nat.le_of_ble_eq_true rfl) ⟨by decide, by decide⟩ ⟨by decide, by decide⟩ dX0_numberMonthOf_37 (fun _ _ h => h.elim) (fun v10 w11 r12 => ?_)
        obtain ⟨rfl, rfl⟩ := r12
        show V D 6 A p l e (rmL 2 0 0) s m args below meth c Q 0 0 (kl cy ad M1) 40 [(5, vi d), (4, vi w), (3, vi (a + 30 - 1)), (2, vi a), (0, .ref (ad 1)), (1, vi day)] [vi (bI (wk h d))]
        refine V.if_eqB C 46 dX0_numberMonthOf_40 (by decide) (fun h40 => ?_) (fun h40 => ?_)
        · skip
          skip
          refine V.aload_n C dX0_numberMonthOf_46 4 rfl ?_
          refine V.getf C (v := .ref (ad 3)) 0 rfl rfl inX0 1 (by decide) fl_X0_15 (fun _ h => h) rfl dX0_numberMonthOf_47 ?_
          refine V.iload C dX0_numberMonthOf_50 0 rfl ?_
          refine V.aload_n C dX0_numberMonthOf_52 4 rfl ?_
          refine V.iload C dX0_numberMonthOf_53 0 rfl ?_
          refine V.callV C (As := [vi d]) (st := [vi d, .ref (ad 3)]) (wr := []) kV_X0_30 (c_works_K l D cy sa hfl ad M1 h d (by omega) (by omega) (hh.same (e4 2 (by decide)))) rfl 0 rfl rfl rfl rfl (Nat.le_of_ble_eq_true rfl) ⟨by decide, by decide⟩ ⟨by decide, by decide⟩ dX0_numberMonthOf_55 (fun _ _ h => h.elim) (fun v13 w14 r15 => ?_)
          obtain ⟨rfl, rfl⟩ := r15
          show V D 6 A p l e (rmL 2 0 0) s m args below meth c Q 0 0 (kl cy ad M1) 58 [(5, vi d), (4, vi w), (3, vi (a + 30 - 1)), (2, vi a), (0, .ref (ad 1)), (1, vi day)] [vi (bI (wk h d)), vi d, .ref (ad 3)]
          refine V.if_eqB C 66 dX0_numberMonthOf_58 (by decide) (fun h58 => ?_) (fun h58 => (by rw [h40] at h58; exact absurd h58 (by decide)))
          refine V.iconst C dX0_numberMonthOf_66 ?_
          refine V.iast C 2 rfl (by omega) (by omega) (by decide) dX0_numberMonthOf_67 (kput_3 (by omega)) ?_
          refine V.iinc C (lc2 := [(5, vi (d + 1)), (4, vi w), (3, vi (a + 30 - 1)), (2, vi a), (0, .ref (ad 1)), (1, vi day)]) dX0_numberMonthOf_68 0 rfl (by decide) rfl ?_
          refine V.goto C 20 dX0_numberMonthOf_71 (by decide) ?_
          exact ih20 (d + 1) w (upM M1 3 d 0) (by omega) (by omega) (by rw [ct_up e1, ← e3, h40]; simp [bI]) (fun k hk => (upM_off hk).trans (e4 k hk)) (fill_up e5 e1 (by first | exact ns_t e3 e1 (by omega) h40 | exact ns_f h40)) (by omega)
        · skip
          skip
          refine V.iinc C (lc2 := [(4, vi (w + 1)), (5, vi d), (3, vi (a + 30 - 1)), (2, vi a), (0, .ref (ad 1)), (1, vi day)]) dX0_numberMonthOf_43 1 rfl (by decide) rfl ?_
          refine V.aload_n C dX0_numberMonthOf_46 4 rfl ?_
          refine V.getf C (v := .ref (ad 3)) 0 rfl rfl inX0 1 (by decide) fl_X0_15 (fun _ h => h) rfl dX0_numberMonthOf_47 ?_
          refine V.iload C dX0_numberMonthOf_50 1 rfl ?_
          refine V.aload_n C dX0_numberMonthOf_52 4 rfl ?_
          refine V.iload C dX0_numberMonthOf_53 1 rfl ?_
          refine V.callV C (As := [vi d]) (st := [vi d, .ref (ad 3)]) (wr := []) kV_X0_30 (c_works_K l D cy sa hfl ad M1 h d (by omega) (by omega) (hh.same (e4 2 (by decide)))) rfl 0 rfl rfl rfl rfl (Nat.le_of_ble_eq_true rfl) ⟨by decide, by decide⟩ ⟨by decide, by decide⟩ dX0_numberMonthOf_55 (fun _ _ h => h.elim) (fun v16 w17 r18 => ?_)
          obtain ⟨rfl, rfl⟩ := r18
          show V D 6 A p l e (rmL 2 0 0) s m args below meth c Q 0 0 (kl cy ad M1) 58 [(4, vi (w + 1)), (5, vi d), (3, vi (a + 30 - 1)), (2, vi a), (0, .ref (ad 1)), (1, vi day)] [vi (bI (wk h d)), vi d, .ref (ad 3)]
          refine V.if_eqB C 66 dX0_numberMonthOf_58 (by decide) (fun h58 => (by rw [h40] at h58; exact absurd h58 (by decide))) (fun h58 => ?_)
          refine V.iload C dX0_numberMonthOf_61 0 rfl ?_
          refine V.goto C 67 dX0_numberMonthOf_63 (by decide) ?_
          refine V.iast C 2 rfl (by omega) (by omega) (by decide) dX0_numberMonthOf_67 (kput_3 (by omega)) ?_
          refine V.iinc C (lc2 := [(5, vi (d + 1)), (4, vi (w + 1)), (3, vi (a + 30 - 1)), (2, vi a), (0, .ref (ad 1)), (1, vi day)]) dX0_numberMonthOf_68 1 rfl (by decide) rfl ?_
          refine V.goto C 20 dX0_numberMonthOf_71 (by decide) ?_
          exact ih20 (d + 1) (w + 1) (upM M1 3 d (w + 1)) (by omega) (by omega) (by rw [ct_up e1, ← e3, h40]; simp [bI]) (fun k hk => (upM_off hk).trans (e4 k hk)) (fill_up e5 e1 (by first | exact ns_t e3 e1 (by omega) h40 | exact ns_f h40)) (by omega)
  exact loop20 _ a 0 M (by omega) (by omega) ((ct_self _ _).symm) (fun _ _ => rfl) (fill_0 fun _ => rfl) (Nat.lt_succ_self _)
set_option maxHeartbeats 4000000 in
set_option maxRecDepth 100000 in
theorem c_numberMonthOf (l : Launch) (D : va_G) (cy : Nat → ClassId) (sa : Nat → Addr) (hfl : l.stackTraces = false) (ad : Nat → Nat) (n : Nat) (M : Nat → Int → Int) (h : Int → Bool) (day : Int) (h0 : 0 ≤ day) (h1 : day < 720) (hh : CH h M) : Ct l D cy sa yX0_numberMonthOf cX0_numberMonthOf 6 none 2 0 0 (cl cy (sa 100) ad n M) [.ref (ad 1), vi day] (fun v ws2 => v = none ∧ ∃ M2, ws2 = cl cy (sa 100) ad n M2 ∧ mon h day M M2) no_x := by
  refine Ct.of (own := RX0) (lc := [(0, .ref (ad 1)), (1, vi day)]) (by decide +kernel) hfl (Nat.le_of_ble_eq_true rfl) rfl rfl ?_
  intro p e s m args below meth c A C hex hnm
  generalize hQ : vx_MQ below (Qo D (fun v ws2 => v = none ∧ ∃ M2, ws2 = cl cy (sa 100) ad n M2 ∧ mon h day M M2) A) (Xo D no_x A) args s 0 0 A = Q
  replace hQ := hQ.symm
  obtain ⟨a, ha⟩ : ∃ a, a = day - day % 30 := ⟨_, rfl⟩
  refine V.iload_n C dX0_numberMonthOf_0 1 rfl ?_
  refine V.iload_n C dX0_numberMonthOf_1 1 rfl ?_
  refine V.bipush C dX0_numberMonthOf_2 (by decide) ?_
  refine V.irem C dX0_numberMonthOf_4 ⟨by omega, by omega⟩ (by omega) ⟨by omega, by omega⟩ (by omega) ?_
  refine V.isub C dX0_numberMonthOf_5 ?_
  rw [show (day - (day % 30)) = a from (ha.symm)]
  refine V.istore_n C (lc2 := [(2, vi a), (0, .ref (ad 1)), (1, vi day)]) dX0_numberMonthOf_6 (by decide) rfl ?_
  refine V.iload_n C dX0_numberMonthOf_7 0 rfl ?_
  refine V.bipush C dX0_numberMonthOf_8 (by decide) ?_
  refine V.iadd C dX0_numberMonthOf_10 ?_
  refine V.iconst C dX0_numberMonthOf_11 ?_
  refine V.isub C dX0_numberMonthOf_12 ?_
  refine V.istore_n C (lc2 := [(3, vi ((a + 30) - 1)), (2, vi a), (0, .ref (ad 1)), (1, vi day)]) dX0_numberMonthOf_13 (by decide) rfl ?_
  refine V.iconst C dX0_numberMonthOf_14 ?_
  refine V.istore C (lc2 := [(4, vi 0), (3, vi ((a + 30) - 1)), (2, vi a), (0, .ref (ad 1)), (1, vi day)]) dX0_numberMonthOf_15 (by decide) rfl ?_
  refine V.iload_n C dX0_numberMonthOf_17 2 rfl ?_
  refine V.istore C (lc2 := [(5, vi a), (4, vi 0), (3, vi ((a + 30) - 1)), (2, vi a), (0, .ref (ad 1)), (1, vi day)]) dX0_numberMonthOf_18 (by decide) rfl ?_
  have loop20 : ∀ (f : Nat) (d : Int) (w : Int) (M1 : Nat → Int → Int), (a ≤ d) → (d ≤ a + 30) → (w = ct (wk h) a d) → (∀ k, k ≠ 3 → M1 k = M k) → (∀ j, M1 3 j = if a ≤ j ∧ j < d then NS h j else M 3 j) → ((a + 30 - d).toNat < f) → V D 6 A p l e (rmL 2 0 0) s m args below meth c Q 0 0 (cl cy (sa 100) ad n M1) 20 [(5, vi d), (4, vi w), (3, vi (a + 30 - 1)), (2, vi a), (0, .ref (ad 1)), (1, vi day)] [] := by
    intro f
    induction f with
    | zero => intro d w M1 e1 e2 e3 e4 e5 hf; exact absurd hf (Nat.not_lt_zero _)
    | succ f ih20 =>
      intro d w M1 e1 e2 e3 e4 e5 hf20
      refine V.iload C dX0_numberMonthOf_20 0 rfl ?_
      refine V.iload_n C dX0_numberMonthOf_22 2 rfl ?_
      refine V.icmp_gt C 74 dX0_numberMonthOf_23 (by decide) ⟨by omega, by omega⟩ ⟨by omega, by omega⟩ (fun h23 => ?_) (fun h23 => ?_)
      · skip
        refine V.iload_n C dX0_numberMonthOf_74 3 rfl ?_
        refine V.istore C (lc2 := [(5, vi a), (4, vi w), (3, vi (a + 30 - 1)), (2, vi a), (0, .ref (ad 1)), (1, vi day)]) dX0_numberMonthOf_75 (by decide) rfl ?_
        have loop77 : ∀ (f : Nat) (d : Int) (M2 : Nat → Int → Int), (a ≤ d) → (d ≤ a + 30) → (∀ k, k ≠ 3 → k ≠ 4 → M2 k = M k) → (∀ j, M2 3 j = if a ≤ j ∧ j < a + 30 then NS h j else M 3 j) → (∀ j, M2 4 j = if a ≤ j ∧ j < d then NE h j else M 4 j) → ((a + 30 - d).toNat < f) → V D 6 A p l e (rmL 2 0 0) s m args below meth c Q 0 0 (cl cy (sa 100) ad n M2) 77 [(5, vi d), (4, vi (ct (wk h) a (a + 30))), (3, vi (a + 30 - 1)), (2, vi a), (0, .ref (ad 1)), (1, vi day)] [] := by
          intro f
          induction f with
          | zero => intro d M2 g1 g2 g4 g3 g5 hf; exact absurd hf (Nat.not_lt_zero _)
          | succ f ih77 =>
            intro d M2 g1 g2 g4 g3 g5 hf77
            refine V.iload C dX0_numberMonthOf_77 0 rfl ?_
            refine V.iload_n C dX0_numberMonthOf_79 2 rfl ?_
            refine V.icmp_gt C 129 dX0_numberMonthOf_80 (by decide) ⟨by omega, by omega⟩ ⟨by omega, by omega⟩ (fun h80 => ?_) (fun h80 => ?_)
            · skip
              rw [hQ]
              exact V.vret C dX0_numberMonthOf_129 (by decide) (by decide) (⟨rfl, M2, rfl, g4, by rw [← ha]; exact g3, fun d1 => by have := g5 d1; rw [show d = a + 30 by omega, ha] at this; exact this⟩)
            · skip
              refine V.iload C dX0_numberMonthOf_83 0 rfl ?_
              refine V.callN C (As := [vi d]) (st := []) (wr := []) (by decide : (RX0, 26) ∈ xNest) (c_isDay l D cy sa hfl _ d ⟨by omega, by omega⟩) rfl rfl rfl (Nat.le_of_ble_eq_true rfl) ⟨by decide, by decide⟩ ⟨by decide, by decide⟩ dX0_numberMonthOf_85 (fun _ _ h => h.elim) (fun v1 w2 r3 => ?_)
              obtain ⟨rfl, rfl⟩ := r3
              show V D 6 A p l e (rmL 2 0 0) s m args below meth c Q 0 0 (cl cy (sa 100) ad n M2) 88 [(5, vi d), (4, vi (ct (wk h) a (a + 30))), (3, vi (a + 30 - 1)), (2, vi a), (0, .ref (ad 1)), (1, vi day)] [vi (bI (isDy d))]
              refine V.if_eqB C 129 dX0_numberMonthOf_88 (by decide) (fun h88 => (by rw [isDy_t (by omega) (by omega)] at h88; exact absurd h88 (by decide))) (fun h88 => ?_)
              refine V.aload_n C dX0_numberMonthOf_91 4 rfl ?_
              refine V.getf C (v := .ref (ad 4)) 1 cl_1 rfl inX0 2 (by decide) fl_X0_19 (fun _ h => h) rfl dX0_numberMonthOf_92 ?_
              refine V.iload C dX0_numberMonthOf_95 0 rfl ?_
              refine V.aload_n C dX0_numberMonthOf_97 4 rfl ?_
              refine V.iload C dX0_numberMonthOf_98 0 rfl ?_
              refine V.callV C (As := [vi d]) (st := [vi d, .ref (ad 4)]) (wr := []) kV_X0_30 (c_works l D cy sa hfl ad n M2 h d (by omega) (by omega) (hh.same (g4 2 (by decide) (by decide)))) rfl 1 cl_1 rfl rfl rfl (Nat.le_of_ble_eq_true rfl) ⟨by decide, by decide⟩ ⟨by decide, by decide⟩ dX0_numberMonthOf_100 (fun _ _ h => h.elim) (fun v4 w5 r6 => ?_)
              obtain ⟨rfl, rfl⟩ := r6
              show V D 6 A p l e (rmL 2 0 0) s m args below meth c Q 0 0 (cl cy (sa 100) ad n M2) 103 [(5, vi d), (4, vi (ct (wk h) a (a + 30))), (3, vi (a + 30 - 1)), (2, vi a), (0, .ref (ad 1)), (1, vi day)] [vi (bI (wk h d)), vi d, .ref (ad 4)]
              refine V.if_eqB C 121 dX0_numberMonthOf_103 (by decide) (fun h103 => ?_) (fun h103 => ?_)
              · skip
                refine V.iconst C dX0_numberMonthOf_121 ?_
                refine V.iast C 4 cl_4 (by omega) (by omega) (by decide) dX0_numberMonthOf_122 (put_4 (by omega)) ?_
                refine V.iinc C (lc2 := [(5, vi (d + 1)), (4, vi (ct (wk h) a (a + 30))), (3, vi (a + 30 - 1)), (2, vi a), (0, .ref (ad 1)), (1, vi day)]) dX0_numberMonthOf_123 0 rfl (by decide) rfl ?_
                refine V.goto C 77 dX0_numberMonthOf_126 (by decide) ?_
                exact ih77 (d + 1) (upM M2 4 d 0) (by omega) (by omega) (fun k h3 h4 => (upM_off h4).trans (g4 k h3 h4)) (by rw [upM_off (by decide)]; exact g3) (fill_up g5 g1 (by first | exact ne_t g1 (by omega) (by omega) h103 (by have := g3 d; rw [if_pos ⟨g1, by omega⟩] at this ⊢; exact this) | exact ne_f h103)) (by omega)
              · skip
                refine V.iload C dX0_numberMonthOf_106 1 rfl ?_
                refine V.iconst C dX0_numberMonthOf_108 ?_
                refine V.iadd C dX0_numberMonthOf_109 ?_
                refine V.aload_n C dX0_numberMonthOf_110 4 rfl ?_
                refine V.getf C (v := .ref (ad 3)) 1 cl_1 rfl inX0 1 (by decide) fl_X0_15 (fun _ h => h) rfl dX0_numberMonthOf_111 ?_
                refine V.iload C dX0_numberMonthOf_114 0 rfl ?_
                refine V.iald C (v := M2 3 d) 3 cl_3 (by omega) (by omega) (by decide) (ld_ar (by omega) rfl) dX0_numberMonthOf_116 ?_
                refine V.isub C dX0_numberMonthOf_117 ?_
                refine V.goto C 122 dX0_numberMonthOf_118 (by decide) ?_
                refine V.iast C 4 cl_4 (by omega) (by omega) (by decide) dX0_numberMonthOf_122 (put_4 (by omega)) ?_
                refine V.iinc C (lc2 := [(5, vi (d + 1)), (4, vi (ct (wk h) a (a + 30))), (3, vi (a + 30 - 1)), (2, vi a), (0, .ref (ad 1)), (1, vi day)]) dX0_numberMonthOf_123 0 rfl (by decide) rfl ?_
                refine V.goto C 77 dX0_numberMonthOf_126 (by decide) ?_
                exact ih77 (d + 1) (upM M2 4 d (((ct (wk h) a (a + 30)) + 1) - (M2 3 d))) (by omega) (by omega) (fun k h3 h4 => (upM_off h4).trans (g4 k h3 h4)) (by rw [upM_off (by decide)]; exact g3) (fill_up g5 g1 (by first | exact ne_t g1 (by omega) (by omega) h103 (by have := g3 d; rw [if_pos ⟨g1, by omega⟩] at this ⊢; exact this) | exact ne_f h103)) (by omega)
        rw [show w = ct (wk h) a (a + 30) by rw [e3]; congr 1; omega]
        exact loop77 _ a M1 (by omega) (by omega) (fun k h3 _ => e4 k h3) (by rw [show d = a + 30 by omega] at e5; exact e5) (fill_0 fun j => by rw [e4 4 (by decide)]) (Nat.lt_succ_self _)
      · skip
        refine V.iload C dX0_numberMonthOf_26 0 rfl ?_
        refine V.callN C (As := [vi d]) (st := []) (wr := []) (by decide : (RX0, 26) ∈ xNest) (c_isDay l D cy sa hfl _ d ⟨by omega, by omega⟩) rfl rfl rfl (Nat.le_of_ble_eq_true rfl) ⟨by decide, by decide⟩ ⟨by decide, by decide⟩ dX0_numberMonthOf_28 (fun _ _ h => h.elim) (fun v7 w8 r9 => ?_)
        obtain ⟨rfl, rfl⟩ := r9
        show V D 6 A p l e (rmL 2 0 0) s m args below meth c Q 0 0 (cl cy (sa 100) ad n M1) 31 [(5, vi d), (4, vi w), (3, vi (a + 30 - 1)), (2, vi a), (0, .ref (ad 1)), (1, vi day)] [vi (bI (isDy d))]
        refine V.if_eqB C 74 dX0_numberMonthOf_31 (by decide) (fun h31 => (by rw [isDy_t (by omega) (by omega)] at h31; exact absurd h31 (by decide))) (fun h31 => ?_)
        refine V.aload_n C dX0_numberMonthOf_34 4 rfl ?_
        refine V.iload C dX0_numberMonthOf_35 0 rfl ?_
        refine V.callV C (As := [vi d]) (st := []) (wr := []) kV_X0_30 (c_works l D cy sa hfl ad n M1 h d (by omega) (by omega) (hh.same (e4 2 (by decide)))) rfl 1 cl_1 rfl rfl rfl (Nat.le_of_ble_eq_true rfl) ⟨by decide, by decide⟩ ⟨by decide, by decide⟩ dX0_numberMonthOf_37 (fun _ _ h => h.elim) (fun v10 w11 r12 => ?_)
        obtain ⟨rfl, rfl⟩ := r12
        show V D 6 A p l e (rmL 2 0 0) s m args below meth c Q 0 0 (cl cy (sa 100) ad n M1) 40 [(5, vi d), (4, vi w), (3, vi (a + 30 - 1)), (2, vi a), (0, .ref (ad 1)), (1, vi day)] [vi (bI (wk h d))]
        refine V.if_eqB C 46 dX0_numberMonthOf_40 (by decide) (fun h40 => ?_) (fun h40 => ?_)
        · skip
          skip
          refine V.aload_n C dX0_numberMonthOf_46 4 rfl ?_
          refine V.getf C (v := .ref (ad 3)) 1 cl_1 rfl inX0 1 (by decide) fl_X0_15 (fun _ h => h) rfl dX0_numberMonthOf_47 ?_
          refine V.iload C dX0_numberMonthOf_50 0 rfl ?_
          refine V.aload_n C dX0_numberMonthOf_52 4 rfl ?_
          refine V.iload C dX0_numberMonthOf_53 0 rfl ?_
          refine V.callV C (As := [vi d]) (st := [vi d, .ref (ad 3)]) (wr := []) kV_X0_30 (c_works l D cy sa hfl ad n M1 h d (by omega) (by omega) (hh.same (e4 2 (by decide)))) rfl 1 cl_1 rfl rfl rfl (Nat.le_of_ble_eq_true rfl) ⟨by decide, by decide⟩ ⟨by decide, by decide⟩ dX0_numberMonthOf_55 (fun _ _ h => h.elim) (fun v13 w14 r15 => ?_)
          obtain ⟨rfl, rfl⟩ := r15
          show V D 6 A p l e (rmL 2 0 0) s m args below meth c Q 0 0 (cl cy (sa 100) ad n M1) 58 [(5, vi d), (4, vi w), (3, vi (a + 30 - 1)), (2, vi a), (0, .ref (ad 1)), (1, vi day)] [vi (bI (wk h d)), vi d, .ref (ad 3)]
          refine V.if_eqB C 66 dX0_numberMonthOf_58 (by decide) (fun h58 => ?_) (fun h58 => (by rw [h40] at h58; exact absurd h58 (by decide)))
          refine V.iconst C dX0_numberMonthOf_66 ?_
          refine V.iast C 3 cl_3 (by omega) (by omega) (by decide) dX0_numberMonthOf_67 (put_3 (by omega)) ?_
          refine V.iinc C (lc2 := [(5, vi (d + 1)), (4, vi w), (3, vi (a + 30 - 1)), (2, vi a), (0, .ref (ad 1)), (1, vi day)]) dX0_numberMonthOf_68 0 rfl (by decide) rfl ?_
          refine V.goto C 20 dX0_numberMonthOf_71 (by decide) ?_
          exact ih20 (d + 1) w (upM M1 3 d 0) (by omega) (by omega) (by rw [ct_up e1, ← e3, h40]; simp [bI]) (fun k hk => (upM_off hk).trans (e4 k hk)) (fill_up e5 e1 (by first | exact ns_t e3 e1 (by omega) h40 | exact ns_f h40)) (by omega)
        · skip
          skip
          refine V.iinc C (lc2 := [(4, vi (w + 1)), (5, vi d), (3, vi (a + 30 - 1)), (2, vi a), (0, .ref (ad 1)), (1, vi day)]) dX0_numberMonthOf_43 1 rfl (by decide) rfl ?_
          refine V.aload_n C dX0_numberMonthOf_46 4 rfl ?_
          refine V.getf C (v := .ref (ad 3)) 1 cl_1 rfl inX0 1 (by decide) fl_X0_15 (fun _ h => h) rfl dX0_numberMonthOf_47 ?_
          refine V.iload C dX0_numberMonthOf_50 1 rfl ?_
          refine V.aload_n C dX0_numberMonthOf_52 4 rfl ?_
          refine V.iload C dX0_numberMonthOf_53 1 rfl ?_
          refine V.callV C (As := [vi d]) (st := [vi d, .ref (ad 3)]) (wr := []) kV_X0_30 (c_works l D cy sa hfl ad n M1 h d (by omega) (by omega) (hh.same (e4 2 (by decide)))) rfl 1 cl_1 rfl rfl rfl (Nat.le_of_ble_eq_true rfl) ⟨by decide, by decide⟩ ⟨by decide, by decide⟩ dX0_numberMonthOf_55 (fun _ _ h => h.elim) (fun v16 w17 r18 => ?_)
          obtain ⟨rfl, rfl⟩ := r18
          show V D 6 A p l e (rmL 2 0 0) s m args below meth c Q 0 0 (cl cy (sa 100) ad n M1) 58 [(4, vi (w + 1)), (5, vi d), (3, vi (a + 30 - 1)), (2, vi a), (0, .ref (ad 1)), (1, vi day)] [vi (bI (wk h d)), vi d, .ref (ad 3)]
          refine V.if_eqB C 66 dX0_numberMonthOf_58 (by decide) (fun h58 => (by rw [h40] at h58; exact absurd h58 (by decide))) (fun h58 => ?_)
          refine V.iload C dX0_numberMonthOf_61 0 rfl ?_
          refine V.goto C 67 dX0_numberMonthOf_63 (by decide) ?_
          refine V.iast C 3 cl_3 (by omega) (by omega) (by decide) dX0_numberMonthOf_67 (put_3 (by omega)) ?_
          refine V.iinc C (lc2 := [(5, vi (d + 1)), (4, vi (w + 1)), (3, vi (a + 30 - 1)), (2, vi a), (0, .ref (ad 1)), (1, vi day)]) dX0_numberMonthOf_68 1 rfl (by decide) rfl ?_
          refine V.goto C 20 dX0_numberMonthOf_71 (by decide) ?_
          exact ih20 (d + 1) (w + 1) (upM M1 3 d (w + 1)) (by omega) (by omega) (by rw [ct_up e1, ← e3, h40]; simp [bI]) (fun k hk => (upM_off hk).trans (e4 k hk)) (fill_up e5 e1 (by first | exact ns_t e3 e1 (by omega) h40 | exact ns_f h40)) (by omega)
  exact loop20 _ a 0 M (by omega) (by omega) ((ct_self _ _).symm) (fun _ _ => rfl) (fill_0 fun _ => rfl) (Nat.lt_succ_self _)
def flip (h : Int → Bool) (day : Int) : Int → Bool := fun d => if d = day then !h d else h d
theorem NS_cong {h g : Int → Bool} {d : Int} (hd : ∀ j, d - d % 30 ≤ j → j ≤ d → h j = g j) : NS h d = NS g d := by
  have e : ∀ j, d - d % 30 ≤ j → j ≤ d → wk h j = wk g j := fun j h1 h2 => by simp only [wk, hd j h1 h2]
  have c : ct (wk h) (d - d % 30) (d + 1) = ct (wk g) (d - d % 30) (d + 1) := ct_cong fun j h1 h2 => e j h1 (by omega)
  simp only [NS, e d (by omega) (Int.le_refl d), c]
theorem NE_cong {h g : Int → Bool} {d : Int} (hd : ∀ j, d ≤ j → j < d - d % 30 + 30 → h j = g j) : NE h d = NE g d := by
  have e : ∀ j, d ≤ j → j < d - d % 30 + 30 → wk h j = wk g j := fun j h1 h2 => by simp only [wk, hd j h1 h2]
  have c : ct (wk h) d (d - d % 30 + 30) = ct (wk g) d (d - d % 30 + 30) := ct_cong e
  simp only [NE, e d (Int.le_refl d) (by omega), c]
theorem flip_CH {h : Int → Bool} {day v : Int} {M : Nat → Int → Int} (hh : CH h M) (h0 : 0 ≤ day) (h1 : day < 720) (hv : v = bI (!h day)) : CH (flip h day) (upM M 2 day v) := by
  intro d g0 g1
  by_cases e : d = day
  · subst e
    rw [upM_s, hv]; simp [flip]
  · rw [upM_n (Or.inr e), hh d g0 g1]; simp [flip, e]
theorem flip_CalI {h : Int → Bool} {day v : Int} {M M2 : Nat → Int → Int} (hc : CalI h M) (h0 : 0 ≤ day) (h1 : day < 720) (hv : v = bI (!h day)) (hm : mon (flip h day) day (upM M 2 day v) M2) : CalI (flip h day) M2 := by
  obtain ⟨m1, m2, m3⟩ := hm
  refine ⟨(flip_CH hc.1 h0 h1 hv).same (m1 2 (by decide) (by decide)), fun d g0 g1 => ?_⟩
  rw [m2 d, m3 d]
  by_cases e : day - day % 30 ≤ d ∧ d < day - day % 30 + 30
  · rw [if_pos e, if_pos e]; exact ⟨rfl, rfl⟩
  · rw [if_neg e, if_neg e, upM_off (by decide), upM_off (by decide)]
    obtain ⟨c1, c2⟩ := hc.2 d g0 g1
    rw [c1, c2]
    refine ⟨NS_cong fun j k1 k2 => ?_, NE_cong fun j k1 k2 => ?_⟩
    · have : j ≠ day := by omega
      simp [flip, this]
    · have : j ≠ day := by omega
      simp [flip, this]
set_option maxHeartbeats 4000000 in
set_option maxRecDepth 100000 in
theorem c_toggleHoliday (l : Launch) (D : va_G) (cy : Nat → ClassId) (sa : Nat → Addr) (hfl : l.stackTraces = false) (ad : Nat → Nat) (n : Nat) (M : Nat → Int → Int) (h : Int → Bool) (d : Int) (h0 : 0 ≤ d) (h1 : d < 720) (hc : CalI h M) : Ct l D cy sa yX0_toggleHoliday cX0_toggleHoliday 2 (some .boolean) 3 0 0 (cl cy (sa 100) ad n M) [.ref (ad 1), vi d] (fun v ws2 => v = some (vi (bI (!h d))) ∧ ∃ M2, ws2 = cl cy (sa 100) ad n M2 ∧ CalI (flip h d) M2 ∧ ∀ k, k ≠ 2 → k ≠ 3 → k ≠ 4 → M2 k = M k) no_x := by
  refine Ct.of (own := RX0) (lc := [(0, .ref (ad 1)), (1, vi d)]) (by decide +kernel) hfl (Nat.le_of_ble_eq_true rfl) rfl rfl ?_
  intro p e s m args below meth c A C hex hnm
  generalize hQ : vx_MQ below (Qo D (fun v ws2 => v = some (vi (bI (!h d))) ∧ ∃ M2, ws2 = cl cy (sa 100) ad n M2 ∧ CalI (flip h d) M2 ∧ ∀ k, k ≠ 2 → k ≠ 3 → k ≠ 4 → M2 k = M k) A) (Xo D no_x A) args s 0 0 A = Q
  replace hQ := hQ.symm
  refine V.iload_n C dX0_toggleHoliday_0 1 rfl ?_
  refine V.callN C (As := [vi d]) (st := []) (wr := []) (by decide : (RX0, 26) ∈ xNest) (c_isDay l D cy sa hfl _ d ⟨by omega, by omega⟩) rfl rfl rfl (Nat.le_of_ble_eq_true rfl) ⟨by decide, by decide⟩ ⟨by decide, by decide⟩ dX0_toggleHoliday_1 (fun _ _ h => h.elim) (fun v1 w2 r3 => ?_)
  obtain ⟨rfl, rfl⟩ := r3
  show V D 2 A p l e (rmL 3 0 0) s m args below meth c Q 0 0 (cl cy (sa 100) ad n M) 4 [(0, .ref (ad 1)), (1, vi d)] [vi (bI (isDy d))]
  refine V.if_neB C 9 dX0_toggleHoliday_4 (by decide) (fun h4 => ?_) (fun h4 => (by rw [isDy_t (by omega) (by omega)] at h4; exact absurd h4 (by decide)))
  refine V.aload_n C dX0_toggleHoliday_9 0 rfl ?_
  refine V.getf C (v := .ref (ad 2)) 1 cl_1 rfl inX0 0 (by decide) fl_X0_9 (fun _ h => h) rfl dX0_toggleHoliday_10 ?_
  refine V.iload_n C dX0_toggleHoliday_13 1 rfl ?_
  refine V.aload_n C dX0_toggleHoliday_14 0 rfl ?_
  refine V.getf C (v := .ref (ad 2)) 1 cl_1 rfl inX0 0 (by decide) fl_X0_9 (fun _ h => h) rfl dX0_toggleHoliday_15 ?_
  refine V.iload_n C dX0_toggleHoliday_18 1 rfl ?_
  refine V.zald C (v := bI (h d)) 2 cl_2 (by omega) (by omega) (by decide) (ld_ar (by omega) (hc.1 d h0 h1)) dX0_toggleHoliday_19 ?_
  refine V.if_neB C 27 dX0_toggleHoliday_20 (by decide) (fun h20 => ?_) (fun h20 => ?_)
  · skip
    refine V.iconst C dX0_toggleHoliday_27 ?_
    have hv : bI false = bI (!h d) := by rw [h20]; rfl
    show V D 2 A p l e (rmL 3 0 0) s m args below meth c Q 0 0 (cl cy (sa 100) ad n M) 28 [(0, .ref (ad 1)), (1, vi d)] [vi (bI false), vi d, .ref (ad 2)]
    refine V.zast C 2 cl_2 (by omega) (by omega) (by decide) dX0_toggleHoliday_28 (put_2 (by omega)) ?_
    refine V.aload_n C dX0_toggleHoliday_29 0 rfl ?_
    refine V.iload_n C dX0_toggleHoliday_30 1 rfl ?_
    refine V.callV C (As := [vi d]) (st := []) (wr := []) kV_X0_22 (c_numberMonthOf l D cy sa hfl ad n (upM M 2 d (bI false)) (flip h d) d h0 h1 (flip_CH hc.1 h0 h1 hv)) rfl 1 cl_1 rfl rfl rfl (Nat.le_of_ble_eq_true rfl) ⟨by decide, by decide⟩ ⟨by decide, by decide⟩ dX0_toggleHoliday_31 (fun _ _ h => h.elim) (fun v4 w5 r6 => ?_)
    obtain ⟨rfl, M2, rfl, hm⟩ := r6
    show V D 2 A p l e (rmL 3 0 0) s m args below meth c Q 0 0 (cl cy (sa 100) ad n M2) 34 [(0, .ref (ad 1)), (1, vi d)] []
    refine V.aload_n C dX0_toggleHoliday_34 0 rfl ?_
    refine V.getf C (v := .ref (ad 2)) 1 cl_1 rfl inX0 0 (by decide) fl_X0_9 (fun _ h => h) rfl dX0_toggleHoliday_35 ?_
    refine V.iload_n C dX0_toggleHoliday_38 1 rfl ?_
    refine V.zald C (v := bI (!h d)) 2 cl_2 (by omega) (by omega) (by decide) (ld_ar (by omega) (by rw [(flip_CalI hc h0 h1 hv hm).1 d h0 h1]; simp [flip])) dX0_toggleHoliday_39 ?_
    rw [hQ]
    exact V.zret C dX0_toggleHoliday_40 (by decide) (by decide) (⟨rfl, M2, rfl, flip_CalI hc h0 h1 hv hm, fun k k2 k3 k4 => (hm.1 k k3 k4).trans (upM_off k2)⟩)
  · skip
    refine V.iconst C dX0_toggleHoliday_23 ?_
    refine V.goto C 28 dX0_toggleHoliday_24 (by decide) ?_
    have hv : bI true = bI (!h d) := by rw [h20]; rfl
    show V D 2 A p l e (rmL 3 0 0) s m args below meth c Q 0 0 (cl cy (sa 100) ad n M) 28 [(0, .ref (ad 1)), (1, vi d)] [vi (bI true), vi d, .ref (ad 2)]
    refine V.zast C 2 cl_2 (by omega) (by omega) (by decide) dX0_toggleHoliday_28 (put_2 (by omega)) ?_
    refine V.aload_n C dX0_toggleHoliday_29 0 rfl ?_
    refine V.iload_n C dX0_toggleHoliday_30 1 rfl ?_
    refine V.callV C (As := [vi d]) (st := []) (wr := []) kV_X0_22 (c_numberMonthOf l D cy sa hfl ad n (upM M 2 d (bI true)) (flip h d) d h0 h1 (flip_CH hc.1 h0 h1 hv)) rfl 1 cl_1 rfl rfl rfl (Nat.le_of_ble_eq_true rfl) ⟨by decide, by decide⟩ ⟨by decide, by decide⟩ dX0_toggleHoliday_31 (fun _ _ h => h.elim) (fun v7 w8 r9 => ?_)
    obtain ⟨rfl, M2, rfl, hm⟩ := r9
    show V D 2 A p l e (rmL 3 0 0) s m args below meth c Q 0 0 (cl cy (sa 100) ad n M2) 34 [(0, .ref (ad 1)), (1, vi d)] []
    refine V.aload_n C dX0_toggleHoliday_34 0 rfl ?_
    refine V.getf C (v := .ref (ad 2)) 1 cl_1 rfl inX0 0 (by decide) fl_X0_9 (fun _ h => h) rfl dX0_toggleHoliday_35 ?_
    refine V.iload_n C dX0_toggleHoliday_38 1 rfl ?_
    refine V.zald C (v := bI (!h d)) 2 cl_2 (by omega) (by omega) (by decide) (ld_ar (by omega) (by rw [(flip_CalI hc h0 h1 hv hm).1 d h0 h1]; simp [flip])) dX0_toggleHoliday_39 ?_
    rw [hQ]
    exact V.zret C dX0_toggleHoliday_40 (by decide) (by decide) (⟨rfl, M2, rfl, flip_CalI hc h0 h1 hv hm, fun k k2 k3 k4 => (hm.1 k k3 k4).trans (upM_off k2)⟩)
