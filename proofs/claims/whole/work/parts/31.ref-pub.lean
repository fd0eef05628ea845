/-! the reference's public methods: days, rules, evidence -/
theorem kDay_t {x : Int} (h : isDy x = true) : kDay x = 0 := by rw [kDay, if_pos h]
theorem kRule_t {n : Nat} {x : Int} (h : isR n x = true) : kRule n x = 0 := by rw [kRule, if_pos (isR_iff.mp h)]
theorem kRule_f {n : Nat} {x : Int} (h : isR n x = false) : kRule n x = 1 := kRule_1 (isR_f.mp h)
theorem kRD_t {n : Nat} {x z : Int} (h : isR n x = true) (h2 : isDy z = true) : kRD n x z = 0 := by rw [kRD, if_pos ⟨isR_iff.mp h, h2⟩]
theorem kRD_f {n : Nat} {x z : Int} (h : isR n x = false) : kRD n x z = 1 := kRD_1 (isR_f.mp h)
theorem kRP_t {n : Nat} {x z : Int} (h : isR n x = true) (h2 : 0 ≤ z) : kRP n x z = 0 := by rw [kRP, if_pos ⟨isR_iff.mp h, h2⟩]
theorem kRP_f {n : Nat} {x z : Int} (h : isR n x = false) : kRP n x z = 1 := kRP_1 (Or.inl (isR_f.mp h))
theorem kDP_t {x z : Int} (h : isDy x = true) (h2 : 0 ≤ z) : kDP x z = 0 := by rw [kDP, if_pos ⟨h, h2⟩]
theorem n10 {P : Prop} {k : Int} (h : k = 1) (e : k = 0) : P := by omega
theorem n20 {P : Prop} {k : Int} (h : k = 2) (e : k = 0) : P := by omega
theorem n30 {P : Prop} {k : Int} (h : k = 3) (e : k = 0) : P := by omega
theorem MI.hol {h : Int → Bool} {td : Int} {n : Nat} {q : Nat → Nat → Int} {rq : Nat → Nat} {M : Nat → Int → Int} {x v : Int} (hm : MI h td n q rq M) (h0 : 0 ≤ x) (h1 : x < 720) (hv : v = bI (!h x)) : MI (flip h x) td n q rq (upM M 2 x v) := by
  obtain ⟨c1, c2, c3, c4, c5, c6⟩ := hm
  have o : ∀ k, k ≠ 2 → upM M 2 x v k = M k := fun k hk => upM_off hk
  refine ⟨flip_CH c1 h0 h1 hv, by rw [o 0 (by decide)]; exact c2, by rw [o 0 (by decide)]; exact c3, ?_, ?_, ?_⟩
  · unfold MR
    rw [o 4 (by decide), o 5 (by decide), o 6 (by decide), o 7 (by decide), o 8 (by decide), o 9 (by decide), o 10 (by decide), o 11 (by decide)]
    exact c4
  · rw [o 10 (by decide), o 11 (by decide)]; exact c5
  · rw [o 12 (by decide)]; exact c6
theorem MI.pas {h : Int → Bool} {td : Int} {n : Nat} {q : Nat → Nat → Int} {rq : Nat → Nat} {M : Nat → Int → Int} {v : Int} (hm : MI h td n q rq M) (h0 : 0 ≤ v) (h1 : v < 720) : MI h v n q rq (upM M 0 1 v) := by
  obtain ⟨c1, c2, c3, c4, c5, c6⟩ := hm
  have o : ∀ k, k ≠ 0 → upM M 0 1 v k = M k := fun k hk => upM_off hk
  refine ⟨c1.same (o 2 (by decide)), ⟨upM_s _ _ _ _, h0, h1⟩, by rw [upM_n (Or.inr (by decide))]; exact c3, ?_, ?_, ?_⟩
  · unfold MR
    rw [o 4 (by decide), o 5 (by decide), o 6 (by decide), o 7 (by decide), o 8 (by decide), o 9 (by decide), o 10 (by decide), o 11 (by decide)]
    exact c4
  · rw [o 10 (by decide), o 11 (by decide)]; exact c5
  · rw [o 12 (by decide)]; exact c6
theorem MI.sh {h : Int → Bool} {td : Int} {n : Nat} {q : Nat → Nat → Int} {rq : Nat → Nat} {M : Nat → Int → Int} {x z : Int} (hm : MI h td n q rq M) (h0 : 0 ≤ x) (h1 : x < (n : Int)) (z0 : 0 ≤ z) (z1 : z ≤ 2) : MI h td n (qsh q x.toNat z) rq (upM M 6 x z) := by
  obtain ⟨c1, c2, c3, c4, c5, c6⟩ := hm
  have o : ∀ k, k ≠ 6 → upM M 6 x z k = M k := fun k hk => upM_off hk
  refine ⟨c1.same (o 2 (by decide)), by rw [o 0 (by decide)]; exact c2, by rw [o 0 (by decide)]; exact c3, fun y y0 y1 => ?_, by rw [o 10 (by decide), o 11 (by decide)]; exact c5, by rw [o 12 (by decide)]; exact c6⟩
  obtain ⟨⟨a4, a5, a6, a7, a8, a9, a10, a11⟩, hp⟩ := c4 y y0 y1
  by_cases e : y = x
  · subst e
    refine ⟨?_, hp.sh z0 z1⟩
    unfold MR
    rw [o 4 (by decide), o 5 (by decide), o 7 (by decide), o 8 (by decide), o 9 (by decide), o 10 (by decide), o 11 (by decide), upM_s, qsh_5, qsh_s (by decide), qsh_s (by decide), qsh_s (by decide), qsh_s (by decide), qsh_s (by decide), qsh_s (by decide), qsh_s (by decide)]
    exact ⟨a4, a5, rfl, a7, a8, a9, a10, a11⟩
  · rw [qsh_n (show y.toNat ≠ x.toNat by omega)]
    refine ⟨?_, hp⟩
    unfold MR
    rw [o 4 (by decide), o 5 (by decide), o 7 (by decide), o 8 (by decide), o 9 (by decide), o 10 (by decide), o 11 (by decide), upM_n (Or.inr e)]
    exact ⟨a4, a5, a6, a7, a8, a9, a10, a11⟩
theorem MI.add {h : Int → Bool} {td : Int} {n : Nat} {q : Nat → Nat → Int} {rq : Nat → Nat} {M M4 : Nat → Int → Int} {kd nn fs ef va sh : Int} (hm : MI h td n q rq M) (hb : ∀ i, i < n → ∀ j, (rq i).testBit j = true → j < n) (hn : n < 8) (hp : PV (pN kd nn fs ef va sh))
    (eo : ∀ k, k = 2 ∨ (10 ≤ k ∧ k ≤ 12) → M4 k = M k) (e1 : M4 0 1 = M 0 1) (e3 : M4 0 3 = (n : Int) + 1) (ex : ∀ k, 4 ≤ k → k ≤ 9 → ∀ x : Int, x ≠ n → M4 k x = M k x)
    (e4 : M4 4 n = kd) (e5 : M4 5 n = nn) (e6 : M4 6 n = sh) (e7 : M4 7 n = fs) (e8 : M4 8 n = ef) (e9 : M4 9 n = va) : MI h td (n + 1) (qA q n (pN kd nn fs ef va sh)) (mA rq n) M4 := by
  obtain ⟨c1, c2, c3, c4, c5, c6⟩ := hm
  refine ⟨c1.same (eo 2 (Or.inl rfl)), by rw [e1]; exact c2, ⟨by rw [e3]; simp, by omega⟩, fun x x0 x1 => ?_, fun x x0 x1 => ?_, fun i j i0 i1 j0 j1 => ?_⟩
  · by_cases c : x = n
    · subst c
      have q1 : qA q n (pN kd nn fs ef va sh) ((n : Int)).toNat = pN kd nn fs ef va sh := by funext j; exact if_pos (Int.toNat_natCast n)
      rw [q1]
      refine ⟨?_, hp⟩
      unfold MR
      rw [e4, e5, e6, e7, e8, e9, eo 10 (by omega), eo 11 (by omega), (c5 n (by omega) (by omega)).1, (c5 n (by omega) (by omega)).2]
      exact ⟨rfl, rfl, rfl, rfl, rfl, rfl, rfl, rfl⟩
    · have q1 : qA q n (pN kd nn fs ef va sh) x.toNat = q x.toNat := by funext j; exact if_neg (by omega)
      rw [q1]
      unfold MR
      rw [ex 4 (by omega) (by omega) x c, ex 5 (by omega) (by omega) x c, ex 6 (by omega) (by omega) x c, ex 7 (by omega) (by omega) x c, ex 8 (by omega) (by omega) x c, ex 9 (by omega) (by omega) x c, eo 10 (by omega), eo 11 (by omega)]
      exact c4 x x0 (by omega)
  · rw [eo 10 (by omega), eo 11 (by omega)]; exact c5 x (by omega) x1
  · rw [eo 12 (by omega), c6 i j i0 i1 j0 j1]
    congr 1
    unfold rqb
    by_cases ci : i < (n : Int)
    · rw [show mA rq n i.toNat = rq i.toNat from if_neg (by omega), decide_eq_true ci, decide_eq_true (show i < ((n + 1 : Nat) : Int) by omega)]
      by_cases cj : j < (n : Int)
      · rw [decide_eq_true cj, decide_eq_true (show j < ((n + 1 : Nat) : Int) by omega)]
      · rw [decide_eq_false cj]
        have : (rq i.toNat).testBit j.toNat = false := by
          rw [← Bool.not_eq_true]
          intro g
          have := hb i.toNat (by omega) _ g
          omega
        rw [this]; simp
    · rw [decide_eq_false ci]
      by_cases c : i = n
      · rw [show mA rq n i.toNat = 0 from if_pos (by omega), Nat.zero_testBit]; simp
      · rw [decide_eq_false (show ¬ i < ((n + 1 : Nat) : Int) by omega)]; simp
set_option maxHeartbeats 4000000 in
set_option maxRecDepth 100000 in
theorem c_m_thrown (l : Launch) (D : va_G) (cy : Nat → ClassId) (sa : Nat → Addr) (hfl : l.stackTraces = false) (ad : Nat → Nat) (M : Nat → Int → Int) : Ct l D cy sa yX3_thrown cX3_thrown 1 (some .int) 0 0 0 (ml cy ad M) [.ref (ad 0)] (fun v ws2 => v = some (vi (M 0 0)) ∧ ws2 = ml cy ad M) no_x := by
  refine Ct.of (own := RX3) (lc := [(0, .ref (ad 0))]) (by decide +kernel) hfl (Nat.le_of_ble_eq_true rfl) rfl rfl ?_
  intro p e s m args below meth c A C hex hnm
  generalize hQ : vx_MQ below (Qo D (fun v ws2 => v = some (vi (M 0 0)) ∧ ws2 = ml cy ad M) A) (Xo D no_x A) args s 0 0 A = Q
  replace hQ := hQ.symm
  skip
  refine V.aload_n C dX3_thrown_0 0 rfl ?_
  refine V.getf C (v := vi (M 0 0)) 0 rfl rfl inX3 0 (by decide) fl_X3_56 (fun _ h => h) rfl dX3_thrown_1 ?_
  rw [hQ]
  exact V.iret C dX3_thrown_4 (by decide) (by decide) (⟨rfl, rfl⟩)
set_option maxHeartbeats 4000000 in
set_option maxRecDepth 100000 in
theorem c_m_fails (l : Launch) (D : va_G) (cy : Nat → ClassId) (sa : Nat → Addr) (hfl : l.stackTraces = false) (ad : Nat → Nat) (M : Nat → Int → Int) (c9 : Int) : Ct l D cy sa yX3_fails cX3_fails 2 (some .int) 0 0 0 (ml cy ad M) [.ref (ad 0), vi c9] (fun v ws2 => v = some (vi 0) ∧ ws2 = ml cy ad (upM M 0 0 c9)) no_x := by
  refine Ct.of (own := RX3) (lc := [(0, .ref (ad 0)), (1, vi c9)]) (by decide +kernel) hfl (Nat.le_of_ble_eq_true rfl) rfl rfl ?_
  intro p e s m args below meth c A C hex hnm
  generalize hQ : vx_MQ below (Qo D (fun v ws2 => v = some (vi 0) ∧ ws2 = ml cy ad (upM M 0 0 c9)) A) (Xo D no_x A) args s 0 0 A = Q
  replace hQ := hQ.symm
  skip
  refine V.aload_n C dX3_fails_0 0 rfl ?_
  refine V.iload_n C dX3_fails_1 1 rfl ?_
  refine V.putf C (v := vi c9) (ty := .int) 0 rfl rfl inX3 tyX3 tyX3_ok nmX3 0 (by decide) fl_X3_56 (fun _ h => h) rfl (by decide +kernel) rfl rfl (Nat.le_of_ble_eq_true rfl) dX3_fails_2 mput_0_0 ?_
  refine V.iconst C dX3_fails_5 ?_
  rw [hQ]
  exact V.iret C dX3_fails_6 (by decide) (by decide) (⟨rfl, rfl⟩)
set_option maxHeartbeats 4000000 in
set_option maxRecDepth 100000 in
theorem c_m_holiday (l : Launch) (D : va_G) (cy : Nat → ClassId) (sa : Nat → Addr) (hfl : l.stackTraces = false) (ad : Nat → Nat) (M : Nat → Int → Int) (h : Int → Bool) (td : Int) (n : Nat) (q : Nat → Nat → Int) (rq : Nat → Nat) (hmi : MI h td n q rq M) (x : Int) (hx : inR x) : Ct l D cy sa yX3_holiday cX3_holiday 2 (some .boolean) 8 0 0 (ml cy ad M) [.ref (ad 0), vi x] (fun v ws2 => ∃ y, v = some (vi (bI y)) ∧ ((kDay x) = 0 → y = !h x) ∧ ∃ M2, ws2 = ml cy ad M2 ∧ M2 0 0 = (kDay x) ∧ ((kDay x) = 0 → MI (flip h x) td n q rq M2) ∧ ((kDay x) ≠ 0 → MI h td n q rq M2)) no_x := by
  refine Ct.of (own := RX3) (lc := [(0, .ref (ad 0)), (1, vi x)]) (by decide +kernel) hfl (Nat.le_of_ble_eq_true rfl) rfl rfl ?_
  intro p e s m args below meth c A C hex hnm
  generalize hQ : vx_MQ below (Qo D (fun v ws2 => ∃ y, v = some (vi (bI y)) ∧ ((kDay x) = 0 → y = !h x) ∧ ∃ M2, ws2 = ml cy ad M2 ∧ M2 0 0 = (kDay x) ∧ ((kDay x) = 0 → MI (flip h x) td n q rq M2) ∧ ((kDay x) ≠ 0 → MI h td n q rq M2)) A) (Xo D no_x A) args s 0 0 A = Q
  replace hQ := hQ.symm
  obtain ⟨hch, ⟨htd, td0, td1⟩, ⟨hmn, hn8⟩, hR, hZ, hQ12⟩ := id hmi
  obtain ⟨hxl, hxr⟩ := hx
  refine V.aload_n C dX3_holiday_0 0 rfl ?_
  refine V.iload_n C dX3_holiday_1 1 rfl ?_
  refine V.callS C (As := [vi x]) (st := [.ref (ad 0)]) (wr := []) kS_X3_67 (c_m_isDay l D cy sa hfl _ x ⟨by omega, by omega⟩) rfl rfl rfl (Nat.le_of_ble_eq_true rfl) ⟨by decide, by decide⟩ ⟨by decide, by decide⟩ dX3_holiday_2 (fun _ _ h => h.elim) (fun v1 w2 r3 => ?_)
  obtain ⟨rfl, hw2⟩ := r3
  rw [hw2]
  show V D 2 A p l e (rmL 8 0 0) s m args below meth c Q 0 0 (ml cy ad M) 5 [(0, .ref (ad 0)), (1, vi x)] [vi (bI (isDy x)), .ref (ad 0)]
  refine V.if_eqB C 12 dX3_holiday_5 (by decide) (fun h5 => ?_) (fun h5 => ?_)
  · skip
    refine V.iconst C dX3_holiday_12 ?_
    refine V.putf C (v := vi 1) (ty := .int) 0 rfl rfl inX3 tyX3 tyX3_ok nmX3 0 (by decide) fl_X3_56 (fun _ h => h) rfl (by decide +kernel) rfl rfl (Nat.le_of_ble_eq_true rfl) dX3_holiday_13 mput_0_0 ?_
    refine V.aload_n C dX3_holiday_16 0 rfl ?_
    refine V.getf C (v := vi 1) 0 rfl rfl inX3 0 (by decide) fl_X3_56 (fun _ h => h) (by show some _ = some _; rw [upM_s]) dX3_holiday_17 ?_
    refine V.if_le C 25 dX3_holiday_20 (by decide) ⟨by decide, by decide⟩ (fun h20 => (by exact absurd h20 (by decide))) (fun h20 => ?_)
    refine V.iconst C dX3_holiday_23 ?_
    show V D 2 A p l e (rmL 8 0 0) s m args below meth c Q 0 0 (ml cy ad (upM M 0 0 1)) 24 [(0, .ref (ad 0)), (1, vi x)] [vi (bI false)]
    rw [hQ]
    exact V.zret C dX3_holiday_24 (by decide) (by decide) (⟨false, rfl, fun e9 => n10 (kDay_1 h5) e9, _, rfl, by rw [upM_s, kDay_1 h5], fun e9 => n10 (kDay_1 h5) e9, fun _ => hmi.t⟩)
  · skip
    have gx := isDy_iff.mp h5
    obtain ⟨gx0, gx1⟩ := gx
    refine V.iconst C dX3_holiday_8 ?_
    refine V.goto C 13 dX3_holiday_9 (by decide) ?_
    refine V.putf C (v := vi 0) (ty := .int) 0 rfl rfl inX3 tyX3 tyX3_ok nmX3 0 (by decide) fl_X3_56 (fun _ h => h) rfl (by decide +kernel) rfl rfl (Nat.le_of_ble_eq_true rfl) dX3_holiday_13 mput_0_0 ?_
    refine V.aload_n C dX3_holiday_16 0 rfl ?_
    refine V.getf C (v := vi 0) 0 rfl rfl inX3 0 (by decide) fl_X3_56 (fun _ h => h) (by show some _ = some _; rw [upM_s]) dX3_holiday_17 ?_
    refine V.if_le C 25 dX3_holiday_20 (by decide) ⟨by decide, by decide⟩ (fun h20 => ?_) (fun h20 => (by exact absurd h20 (by decide)))
    refine V.aload_n C dX3_holiday_25 0 rfl ?_
    refine V.getf C (v := .ref (ad 2)) 0 rfl rfl inX3 2 (by decide) fl_X3_7 (fun _ h => h) rfl dX3_holiday_26 ?_
    refine V.iload_n C dX3_holiday_29 1 rfl ?_
    refine V.aload_n C dX3_holiday_30 0 rfl ?_
    refine V.getf C (v := .ref (ad 2)) 0 rfl rfl inX3 2 (by decide) fl_X3_7 (fun _ h => h) rfl dX3_holiday_31 ?_
    refine V.iload_n C dX3_holiday_34 1 rfl ?_
    refine V.zald C (v := bI (h x)) 1 rfl (by omega) (by omega) (by decide) (ld_ar (by omega) (by rw [upM_n (Or.inl (by decide))]; exact hch x gx0 gx1)) dX3_holiday_35 ?_
    refine V.if_neB C 43 dX3_holiday_36 (by decide) (fun h36 => ?_) (fun h36 => ?_)
    · skip
      refine V.iconst C dX3_holiday_43 ?_
      show V D 2 A p l e (rmL 8 0 0) s m args below meth c Q 0 0 (ml cy ad (upM M 0 0 0)) 44 [(0, .ref (ad 0)), (1, vi x)] [vi (bI false), vi x, .ref (ad 2)]
      refine V.zast C 1 rfl (by omega) (by omega) (by decide) dX3_holiday_44 (mput_2 (by omega)) ?_
      refine V.aload_n C dX3_holiday_45 0 rfl ?_
      refine V.getf C (v := .ref (ad 2)) 0 rfl rfl inX3 2 (by decide) fl_X3_7 (fun _ h => h) rfl dX3_holiday_46 ?_
      refine V.iload_n C dX3_holiday_49 1 rfl ?_
      refine V.zald C (v := bI false) 1 rfl (by omega) (by omega) (by decide) (ld_ar (by omega) (upM_s _ _ _ _)) dX3_holiday_50 ?_
      rw [hQ]
      exact V.zret C dX3_holiday_51 (by decide) (by decide) (⟨_, rfl, fun _ => by rw [h36]; rfl, _, rfl, by rw [upM_n (Or.inl (by decide)), upM_s, kDay_t h5], fun _ => hmi.t.hol gx0 gx1 (by rw [h36]; rfl), fun e9 => absurd (kDay_t h5) e9⟩)
    · skip
      refine V.iconst C dX3_holiday_39 ?_
      refine V.goto C 44 dX3_holiday_40 (by decide) ?_
      show V D 2 A p l e (rmL 8 0 0) s m args below meth c Q 0 0 (ml cy ad (upM M 0 0 0)) 44 [(0, .ref (ad 0)), (1, vi x)] [vi (bI true), vi x, .ref (ad 2)]
      refine V.zast C 1 rfl (by omega) (by omega) (by decide) dX3_holiday_44 (mput_2 (by omega)) ?_
      refine V.aload_n C dX3_holiday_45 0 rfl ?_
      refine V.getf C (v := .ref (ad 2)) 0 rfl rfl inX3 2 (by decide) fl_X3_7 (fun _ h => h) rfl dX3_holiday_46 ?_
      refine V.iload_n C dX3_holiday_49 1 rfl ?_
      refine V.zald C (v := bI true) 1 rfl (by omega) (by omega) (by decide) (ld_ar (by omega) (upM_s _ _ _ _)) dX3_holiday_50 ?_
      rw [hQ]
      exact V.zret C dX3_holiday_51 (by decide) (by decide) (⟨_, rfl, fun _ => by rw [h36]; rfl, _, rfl, by rw [upM_n (Or.inl (by decide)), upM_s, kDay_t h5], fun _ => hmi.t.hol gx0 gx1 (by rw [h36]; rfl), fun e9 => absurd (kDay_t h5) e9⟩)
set_option maxHeartbeats 4000000 in
set_option maxRecDepth 100000 in
theorem c_m_isWorking (l : Launch) (D : va_G) (cy : Nat → ClassId) (sa : Nat → Addr) (hfl : l.stackTraces = false) (ad : Nat → Nat) (M : Nat → Int → Int) (h : Int → Bool) (td : Int) (n : Nat) (q : Nat → Nat → Int) (rq : Nat → Nat) (hmi : MI h td n q rq M) (x : Int) (hx : inR x) : Ct l D cy sa yX3_isWorking cX3_isWorking 2 (some .boolean) 8 0 0 (ml cy ad M) [.ref (ad 0), vi x] (fun v ws2 => ∃ y, v = some (vi (bI y)) ∧ ((kDay x) = 0 → y = wk h x) ∧ ∃ M2, ws2 = ml cy ad M2 ∧ M2 0 0 = (kDay x) ∧ MI h td n q rq M2) no_x := by
  refine Ct.of (own := RX3) (lc := [(0, .ref (ad 0)), (1, vi x)]) (by decide +kernel) hfl (Nat.le_of_ble_eq_true rfl) rfl rfl ?_
  intro p e s m args below meth c A C hex hnm
  generalize hQ : vx_MQ below (Qo D (fun v ws2 => ∃ y, v = some (vi (bI y)) ∧ ((kDay x) = 0 → y = wk h x) ∧ ∃ M2, ws2 = ml cy ad M2 ∧ M2 0 0 = (kDay x) ∧ MI h td n q rq M2) A) (Xo D no_x A) args s 0 0 A = Q
  replace hQ := hQ.symm
  obtain ⟨hch, ⟨htd, td0, td1⟩, ⟨hmn, hn8⟩, hR, hZ, hQ12⟩ := id hmi
  obtain ⟨hxl, hxr⟩ := hx
  refine V.aload_n C dX3_isWorking_0 0 rfl ?_
  refine V.iload_n C dX3_isWorking_1 1 rfl ?_
  refine V.callS C (As := [vi x]) (st := [.ref (ad 0)]) (wr := []) kS_X3_67 (c_m_isDay l D cy sa hfl _ x ⟨by omega, by omega⟩) rfl rfl rfl (Nat.le_of_ble_eq_true rfl) ⟨by decide, by decide⟩ ⟨by decide, by decide⟩ dX3_isWorking_2 (fun _ _ h => h.elim) (fun v1 w2 r3 => ?_)
  obtain ⟨rfl, hw2⟩ := r3
  rw [hw2]
  show V D 2 A p l e (rmL 8 0 0) s m args below meth c Q 0 0 (ml cy ad M) 5 [(0, .ref (ad 0)), (1, vi x)] [vi (bI (isDy x)), .ref (ad 0)]
  refine V.if_eqB C 12 dX3_isWorking_5 (by decide) (fun h5 => ?_) (fun h5 => ?_)
  · skip
    refine V.iconst C dX3_isWorking_12 ?_
    refine V.putf C (v := vi 1) (ty := .int) 0 rfl rfl inX3 tyX3 tyX3_ok nmX3 0 (by decide) fl_X3_56 (fun _ h => h) rfl (by decide +kernel) rfl rfl (Nat.le_of_ble_eq_true rfl) dX3_isWorking_13 mput_0_0 ?_
    refine V.aload_n C dX3_isWorking_16 0 rfl ?_
    refine V.getf C (v := vi 1) 0 rfl rfl inX3 0 (by decide) fl_X3_56 (fun _ h => h) (by show some _ = some _; rw [upM_s]) dX3_isWorking_17 ?_
    refine V.if_ne C 35 dX3_isWorking_20 (by decide) ⟨by decide, by decide⟩ (fun h20 => ?_) (fun h20 => (by exact absurd h20 (by decide)))
    refine V.iconst C dX3_isWorking_35 ?_
    show V D 2 A p l e (rmL 8 0 0) s m args below meth c Q 0 0 (ml cy ad (upM M 0 0 1)) 36 [(0, .ref (ad 0)), (1, vi x)] [vi (bI false)]
    rw [hQ]
    exact V.zret C dX3_isWorking_36 (by decide) (by decide) (⟨false, rfl, fun e9 => n10 (kDay_1 h5) e9, _, rfl, by rw [upM_s, kDay_1 h5], hmi.t⟩)
  · skip
    have gx := isDy_iff.mp h5
    obtain ⟨gx0, gx1⟩ := gx
    refine V.iconst C dX3_isWorking_8 ?_
    refine V.goto C 13 dX3_isWorking_9 (by decide) ?_
    refine V.putf C (v := vi 0) (ty := .int) 0 rfl rfl inX3 tyX3 tyX3_ok nmX3 0 (by decide) fl_X3_56 (fun _ h => h) rfl (by decide +kernel) rfl rfl (Nat.le_of_ble_eq_true rfl) dX3_isWorking_13 mput_0_0 ?_
    refine V.aload_n C dX3_isWorking_16 0 rfl ?_
    refine V.getf C (v := vi 0) 0 rfl rfl inX3 0 (by decide) fl_X3_56 (fun _ h => h) (by show some _ = some _; rw [upM_s]) dX3_isWorking_17 ?_
    refine V.if_ne C 35 dX3_isWorking_20 (by decide) ⟨by decide, by decide⟩ (fun h20 => (by exact absurd h20 (by decide))) (fun h20 => ?_)
    refine V.aload_n C dX3_isWorking_23 0 rfl ?_
    refine V.iload_n C dX3_isWorking_24 1 rfl ?_
    refine V.callV C (As := [vi x]) (st := []) (wr := []) kV_X3_71 (c_m_works l D cy sa hfl ad (upM M 0 0 0) h (hch.same (upM_off (by decide))) x (by omega) (by omega)) rfl 0 rfl rfl rfl rfl (Nat.le_of_ble_eq_true rfl) ⟨by decide, by decide⟩ ⟨by decide, by decide⟩ dX3_isWorking_25 (fun _ _ h => h.elim) (fun v4 w5 r6 => ?_)
    obtain ⟨rfl, hw5⟩ := r6
    rw [hw5]
    show V D 2 A p l e (rmL 8 0 0) s m args below meth c Q 0 0 (ml cy ad (upM M 0 0 0)) 28 [(0, .ref (ad 0)), (1, vi x)] [vi (bI (wk h x))]
    refine V.if_eqB C 35 dX3_isWorking_28 (by decide) (fun h28 => ?_) (fun h28 => ?_)
    · skip
      refine V.iconst C dX3_isWorking_35 ?_
      show V D 2 A p l e (rmL 8 0 0) s m args below meth c Q 0 0 (ml cy ad (upM M 0 0 0)) 36 [(0, .ref (ad 0)), (1, vi x)] [vi (bI false)]
      rw [hQ]
      exact V.zret C dX3_isWorking_36 (by decide) (by decide) (⟨_, rfl, fun _ => h28.symm, _, rfl, by rw [upM_s, kDay_t h5], hmi.t⟩)
    · skip
      refine V.iconst C dX3_isWorking_31 ?_
      refine V.goto C 36 dX3_isWorking_32 (by decide) ?_
      show V D 2 A p l e (rmL 8 0 0) s m args below meth c Q 0 0 (ml cy ad (upM M 0 0 0)) 36 [(0, .ref (ad 0)), (1, vi x)] [vi (bI true)]
      rw [hQ]
      exact V.zret C dX3_isWorking_36 (by decide) (by decide) (⟨_, rfl, fun _ => h28.symm, _, rfl, by rw [upM_s, kDay_t h5], hmi.t⟩)
theorem kSpan_rng (x z : Int) : 0 ≤ kSpan x z ∧ kSpan x z ≤ 2 := by
  unfold kSpan; split
  · split <;> omega
  · omega
theorem kSpan_z {x z : Int} (h : kSpan x z ≤ 0) : kSpan x z = 0 ∧ 0 ≤ x ∧ x < 720 ∧ 0 ≤ z ∧ z < 720 ∧ x ≤ z := by
  unfold kSpan at h ⊢
  split at h
  · rename_i g
    split at h
    · omega
    · rename_i g2
      have g3 := isDy_iff.mp g.1
      have g4 := isDy_iff.mp g.2
      rw [if_pos g, if_neg g2]
      omega
  · omega
set_option maxHeartbeats 4000000 in
set_option maxRecDepth 100000 in
theorem c_m_workingDays (l : Launch) (D : va_G) (cy : Nat → ClassId) (sa : Nat → Addr) (hfl : l.stackTraces = false) (ad : Nat → Nat) (M : Nat → Int → Int) (h : Int → Bool) (td : Int) (n : Nat) (q : Nat → Nat → Int) (rq : Nat → Nat) (hmi : MI h td n q rq M) (x : Int) (hx : inR x) (z : Int) (hz : inR z) : Ct l D cy sa yX3_workingDays cX3_workingDays 3 (some .int) 8 0 0 (ml cy ad M) [.ref (ad 0), vi x, vi z] (fun v ws2 => ∃ y, v = some (vi y) ∧ ((kSpan x z) = 0 → y = ct (wk h) x (z + 1)) ∧ ∃ M2, ws2 = ml cy ad M2 ∧ M2 0 0 = (kSpan x z) ∧ MI h td n q rq M2) no_x := by
  refine Ct.of (own := RX3) (lc := [(0, .ref (ad 0)), (1, vi x), (2, vi z)]) (by decide +kernel) hfl (Nat.le_of_ble_eq_true rfl) rfl rfl ?_
  intro p e s m args below meth c A C hex hnm
  generalize hQ : vx_MQ below (Qo D (fun v ws2 => ∃ y, v = some (vi y) ∧ ((kSpan x z) = 0 → y = ct (wk h) x (z + 1)) ∧ ∃ M2, ws2 = ml cy ad M2 ∧ M2 0 0 = (kSpan x z) ∧ MI h td n q rq M2) A) (Xo D no_x A) args s 0 0 A = Q
  replace hQ := hQ.symm
  obtain ⟨hch, ⟨htd, td0, td1⟩, ⟨hmn, hn8⟩, hR, hZ, hQ12⟩ := id hmi
  obtain ⟨hxl, hxr⟩ := hx
  obtain ⟨hzl, hzr⟩ := hz
  have ks := kSpan_rng x z
  refine V.aload_n C dX3_workingDays_0 0 rfl ?_
  refine V.iload_n C dX3_workingDays_1 1 rfl ?_
  refine V.iload_n C dX3_workingDays_2 2 rfl ?_
  refine V.callS C (As := [vi x, vi z]) (st := [.ref (ad 0)]) (wr := []) kS_X3_74 (c_m_barsSpan l D cy sa hfl _ x z ⟨by omega, by omega⟩ ⟨by omega, by omega⟩) rfl rfl rfl (Nat.le_of_ble_eq_true rfl) ⟨by decide, by decide⟩ ⟨by decide, by decide⟩ dX3_workingDays_3 (fun _ _ h => h.elim) (fun v1 w2 r3 => ?_)
  obtain ⟨rfl, hw2⟩ := r3
  rw [hw2]
  show V D 3 A p l e (rmL 8 0 0) s m args below meth c Q 0 0 (ml cy ad M) 6 [(0, .ref (ad 0)), (1, vi x), (2, vi z)] [vi (kSpan x z), .ref (ad 0)]
  refine V.putf C (v := vi (kSpan x z)) (ty := .int) 0 rfl rfl inX3 tyX3 tyX3_ok nmX3 0 (by decide) fl_X3_56 (fun _ h => h) rfl (by decide +kernel) rfl rfl (Nat.le_of_ble_eq_true rfl) dX3_workingDays_6 mput_0_0 ?_
  refine V.aload_n C dX3_workingDays_9 0 rfl ?_
  refine V.getf C (v := vi (kSpan x z)) 0 rfl rfl inX3 0 (by decide) fl_X3_56 (fun _ h => h) (by show some _ = some _; rw [upM_s]) dX3_workingDays_10 ?_
  refine V.if_le C 20 dX3_workingDays_13 (by decide) ⟨by omega, by omega⟩ (fun h13 => ?_) (fun h13 => ?_)
  · skip
    obtain ⟨hk0, gx0, gx1, gz0, gz1, gxz⟩ := kSpan_z h13
    refine V.aload_n C dX3_workingDays_20 0 rfl ?_
    refine V.iload_n C dX3_workingDays_21 1 rfl ?_
    refine V.iload_n C dX3_workingDays_22 2 rfl ?_
    refine V.callV C (As := [vi x, vi z]) (st := []) (wr := []) kV_X3_78 (c_m_workingFrom l D cy sa hfl ad (upM M 0 0 (kSpan x z)) h (hch.same (upM_off (by decide))) x z (by omega) (by omega) (by omega) (by omega)) rfl 0 rfl rfl rfl rfl (Nat.le_of_ble_eq_true rfl) ⟨by decide, by decide⟩ ⟨by decide, by decide⟩ dX3_workingDays_23 (fun _ _ h => h.elim) (fun v4 w5 r6 => ?_)
    obtain ⟨rfl, hw5⟩ := r6
    rw [hw5]
    show V D 3 A p l e (rmL 8 0 0) s m args below meth c Q 0 0 (ml cy ad (upM M 0 0 (kSpan x z))) 26 [(0, .ref (ad 0)), (1, vi x), (2, vi z)] [vi (ct (wk h) x (z + 1))]
    rw [hQ]
    exact V.iret C dX3_workingDays_26 (by decide) (by decide) (⟨_, rfl, fun _ => rfl, _, rfl, upM_s _ _ _ _, hmi.t⟩)
  · skip
    refine V.iconst C dX3_workingDays_16 ?_
    refine V.goto C 26 dX3_workingDays_17 (by decide) ?_
    rw [hQ]
    exact V.iret C dX3_workingDays_26 (by decide) (by decide) (⟨_, rfl, fun e9 => absurd e9 (by omega), _, rfl, upM_s _ _ _ _, hmi.t⟩)
set_option maxHeartbeats 4000000 in
set_option maxRecDepth 100000 in
theorem c_m_pass (l : Launch) (D : va_G) (cy : Nat → ClassId) (sa : Nat → Addr) (hfl : l.stackTraces = false) (ad : Nat → Nat) (M : Nat → Int → Int) (h : Int → Bool) (td : Int) (n : Nat) (q : Nat → Nat → Int) (rq : Nat → Nat) (hmi : MI h td n q rq M) (x : Int) (hx : inR x) : Ct l D cy sa yX3_pass cX3_pass 2 (some .int) 8 0 0 (ml cy ad M) [.ref (ad 0), vi x] (fun v ws2 => ∃ y, v = some (vi y) ∧ ((kPass td x) = 0 → y = td + x) ∧ ∃ M2, ws2 = ml cy ad M2 ∧ M2 0 0 = (kPass td x) ∧ ((kPass td x) = 0 → MI h (td + x) n q rq M2) ∧ ((kPass td x) ≠ 0 → MI h td n q rq M2)) no_x := by
  refine Ct.of (own := RX3) (lc := [(0, .ref (ad 0)), (1, vi x)]) (by decide +kernel) hfl (Nat.le_of_ble_eq_true rfl) rfl rfl ?_
  intro p e s m args below meth c A C hex hnm
  generalize hQ : vx_MQ below (Qo D (fun v ws2 => ∃ y, v = some (vi y) ∧ ((kPass td x) = 0 → y = td + x) ∧ ∃ M2, ws2 = ml cy ad M2 ∧ M2 0 0 = (kPass td x) ∧ ((kPass td x) = 0 → MI h (td + x) n q rq M2) ∧ ((kPass td x) ≠ 0 → MI h td n q rq M2)) A) (Xo D no_x A) args s 0 0 A = Q
  replace hQ := hQ.symm
  obtain ⟨hch, ⟨htd, td0, td1⟩, ⟨hmn, hn8⟩, hR, hZ, hQ12⟩ := id hmi
  obtain ⟨hxl, hxr⟩ := hx
  refine V.aload_n C dX3_pass_0 0 rfl ?_
  refine V.iload_n C dX3_pass_1 1 rfl ?_
  refine V.iconst C dX3_pass_2 ?_
  refine V.bipush C dX3_pass_3 (by decide) ?_
  refine V.callS C (As := [vi x, vi 1, vi 100]) (st := [.ref (ad 0)]) (wr := []) kS_X3_60 (c_m_in l D cy sa hfl _ x 1 100 ⟨by omega, by omega⟩ ⟨by decide, by decide⟩ ⟨by decide, by decide⟩) rfl rfl rfl (Nat.le_of_ble_eq_true rfl) ⟨by decide, by decide⟩ ⟨by decide, by decide⟩ dX3_pass_5 (fun _ _ h => h.elim) (fun v1 w2 r3 => ?_)
  obtain ⟨rfl, hw2⟩ := r3
  rw [hw2]
  show V D 2 A p l e (rmL 8 0 0) s m args below meth c Q 0 0 (ml cy ad M) 8 [(0, .ref (ad 0)), (1, vi x)] [vi (bI (inB x 1 100)), .ref (ad 0)]
  refine V.if_neB C 15 dX3_pass_8 (by decide) (fun h8 => ?_) (fun h8 => ?_)
  · skip
    have i8 := inB_iff.mp h8
    refine V.aload_n C dX3_pass_15 0 rfl ?_
    refine V.getf C (v := vi td) 0 rfl rfl inX3 1 (by decide) fl_X3_81 (fun _ h => h) (by show some _ = some _; rw [hmi.2.1.1]) dX3_pass_16 ?_
    refine V.iload_n C dX3_pass_19 1 rfl ?_
    refine V.iadd C dX3_pass_20 ?_
    refine V.sipush C dX3_pass_21 (by decide) ?_
    refine V.icmp_lt C 31 dX3_pass_24 (by decide) ⟨by omega, by omega⟩ ⟨by decide, by decide⟩ (fun h24 => ?_) (fun h24 => ?_)
    · skip
      refine V.iconst C dX3_pass_31 ?_
      refine V.putf C (v := vi 0) (ty := .int) 0 rfl rfl inX3 tyX3 tyX3_ok nmX3 0 (by decide) fl_X3_56 (fun _ h => h) rfl (by decide +kernel) rfl rfl (Nat.le_of_ble_eq_true rfl) dX3_pass_32 mput_0_0 ?_
      refine V.aload_n C dX3_pass_35 0 rfl ?_
      refine V.dup C dX3_pass_36 rfl ?_
      refine V.getf C (v := vi td) 0 rfl rfl inX3 1 (by decide) fl_X3_81 (fun _ h => h) (by show some _ = some _; rw [upM_n (Or.inr (by decide)), hmi.2.1.1]) dX3_pass_37 ?_
      refine V.aload_n C dX3_pass_40 0 rfl ?_
      refine V.getf C (v := vi 0) 0 rfl rfl inX3 0 (by decide) fl_X3_56 (fun _ h => h) (by show some _ = some _; rw [upM_s]) dX3_pass_41 ?_
      refine V.if_ne C 51 dX3_pass_44 (by decide) ⟨by decide, by decide⟩ (fun h44 => (by exact absurd h44 (by decide))) (fun h44 => ?_)
      refine V.iload_n C dX3_pass_47 1 rfl ?_
      refine V.goto C 52 dX3_pass_48 (by decide) ?_
      refine V.iadd C dX3_pass_52 ?_
      rw [show (td + x) = (td + x) from (by omega)]
      refine V.putf C (v := vi (td + x)) (ty := .int) 0 rfl rfl inX3 tyX3 tyX3_ok nmX3 1 (by decide) fl_X3_81 (fun _ h => h) rfl (by decide +kernel) rfl rfl (Nat.le_of_ble_eq_true rfl) dX3_pass_53 mput_0_1 ?_
      refine V.aload_n C dX3_pass_56 0 rfl ?_
      refine V.getf C (v := vi 0) 0 rfl rfl inX3 0 (by decide) fl_X3_56 (fun _ h => h) (by show some _ = some _; rw [upM_n (Or.inr (by decide)), upM_s]) dX3_pass_57 ?_
      refine V.if_le C 67 dX3_pass_60 (by decide) ⟨by decide, by decide⟩ (fun h60 => ?_) (fun h60 => (by exact absurd h60 (by decide)))
      refine V.aload_n C dX3_pass_67 0 rfl ?_
      refine V.getf C (v := vi (td + x)) 0 rfl rfl inX3 1 (by decide) fl_X3_81 (fun _ h => h) (by show some _ = some _; rw [upM_s]) dX3_pass_68 ?_
      rw [hQ]
      exact V.iret C dX3_pass_71 (by decide) (by decide) (⟨_, rfl, fun _ => rfl, _, rfl, by rw [upM_n (Or.inr (by decide)), upM_s, show kPass td x = 0 by unfold kPass; rw [if_pos (by omega), if_neg (by omega)]], fun _ => hmi.t.pas (by omega) (by omega), fun e9 => absurd (show kPass td x = 0 by unfold kPass; rw [if_pos (by omega), if_neg (by omega)]) e9⟩)
    · skip
      refine V.iconst C dX3_pass_27 ?_
      refine V.goto C 32 dX3_pass_28 (by decide) ?_
      refine V.putf C (v := vi 2) (ty := .int) 0 rfl rfl inX3 tyX3 tyX3_ok nmX3 0 (by decide) fl_X3_56 (fun _ h => h) rfl (by decide +kernel) rfl rfl (Nat.le_of_ble_eq_true rfl) dX3_pass_32 mput_0_0 ?_
      refine V.aload_n C dX3_pass_35 0 rfl ?_
      refine V.dup C dX3_pass_36 rfl ?_
      refine V.getf C (v := vi td) 0 rfl rfl inX3 1 (by decide) fl_X3_81 (fun _ h => h) (by show some _ = some _; rw [upM_n (Or.inr (by decide)), hmi.2.1.1]) dX3_pass_37 ?_
      refine V.aload_n C dX3_pass_40 0 rfl ?_
      refine V.getf C (v := vi 2) 0 rfl rfl inX3 0 (by decide) fl_X3_56 (fun _ h => h) (by show some _ = some _; rw [upM_s]) dX3_pass_41 ?_
      refine V.if_ne C 51 dX3_pass_44 (by decide) ⟨by decide, by decide⟩ (fun h44 => ?_) (fun h44 => (by exact absurd h44 (by decide)))
      refine V.iconst C dX3_pass_51 ?_
      refine V.iadd C dX3_pass_52 ?_
      rw [show (td + 0) = td from (by omega)]
      refine V.putf C (v := vi td) (ty := .int) 0 rfl rfl inX3 tyX3 tyX3_ok nmX3 1 (by decide) fl_X3_81 (fun _ h => h) rfl (by decide +kernel) rfl rfl (Nat.le_of_ble_eq_true rfl) dX3_pass_53 mput_0_1 ?_
      refine V.aload_n C dX3_pass_56 0 rfl ?_
      refine V.getf C (v := vi 2) 0 rfl rfl inX3 0 (by decide) fl_X3_56 (fun _ h => h) (by show some _ = some _; rw [upM_n (Or.inr (by decide)), upM_s]) dX3_pass_57 ?_
      refine V.if_le C 67 dX3_pass_60 (by decide) ⟨by decide, by decide⟩ (fun h60 => (by exact absurd h60 (by decide))) (fun h60 => ?_)
      refine V.iconst C dX3_pass_63 ?_
      refine V.goto C 71 dX3_pass_64 (by decide) ?_
      rw [hQ]
      exact V.iret C dX3_pass_71 (by decide) (by decide) (⟨_, rfl, fun e9 => n20 (show kPass td x = 2 by unfold kPass; rw [if_pos (by omega), if_pos (by omega)]) e9, _, rfl, by rw [upM_n (Or.inr (by decide)), upM_s, show kPass td x = 2 by unfold kPass; rw [if_pos (by omega), if_pos (by omega)]], fun e9 => n20 (show kPass td x = 2 by unfold kPass; rw [if_pos (by omega), if_pos (by omega)]) e9, fun _ => hmi.t.pas td0 td1⟩)
  · skip
    have i8 := inB_f.mp h8
    refine V.iconst C dX3_pass_11 ?_
    refine V.goto C 32 dX3_pass_12 (by decide) ?_
    refine V.putf C (v := vi 1) (ty := .int) 0 rfl rfl inX3 tyX3 tyX3_ok nmX3 0 (by decide) fl_X3_56 (fun _ h => h) rfl (by decide +kernel) rfl rfl (Nat.le_of_ble_eq_true rfl) dX3_pass_32 mput_0_0 ?_
    refine V.aload_n C dX3_pass_35 0 rfl ?_
    refine V.dup C dX3_pass_36 rfl ?_
    refine V.getf C (v := vi td) 0 rfl rfl inX3 1 (by decide) fl_X3_81 (fun _ h => h) (by show some _ = some _; rw [upM_n (Or.inr (by decide)), hmi.2.1.1]) dX3_pass_37 ?_
    refine V.aload_n C dX3_pass_40 0 rfl ?_
    refine V.getf C (v := vi 1) 0 rfl rfl inX3 0 (by decide) fl_X3_56 (fun _ h => h) (by show some _ = some _; rw [upM_s]) dX3_pass_41 ?_
    refine V.if_ne C 51 dX3_pass_44 (by decide) ⟨by decide, by decide⟩ (fun h44 => ?_) (fun h44 => (by exact absurd h44 (by decide)))
    refine V.iconst C dX3_pass_51 ?_
    refine V.iadd C dX3_pass_52 ?_
    rw [show (td + 0) = td from (by omega)]
    refine V.putf C (v := vi td) (ty := .int) 0 rfl rfl inX3 tyX3 tyX3_ok nmX3 1 (by decide) fl_X3_81 (fun _ h => h) rfl (by decide +kernel) rfl rfl (Nat.le_of_ble_eq_true rfl) dX3_pass_53 mput_0_1 ?_
    refine V.aload_n C dX3_pass_56 0 rfl ?_
    refine V.getf C (v := vi 1) 0 rfl rfl inX3 0 (by decide) fl_X3_56 (fun _ h => h) (by show some _ = some _; rw [upM_n (Or.inr (by decide)), upM_s]) dX3_pass_57 ?_
    refine V.if_le C 67 dX3_pass_60 (by decide) ⟨by decide, by decide⟩ (fun h60 => (by exact absurd h60 (by decide))) (fun h60 => ?_)
    refine V.iconst C dX3_pass_63 ?_
    refine V.goto C 71 dX3_pass_64 (by decide) ?_
    rw [hQ]
    exact V.iret C dX3_pass_71 (by decide) (by decide) (⟨_, rfl, fun e9 => n10 (show kPass td x = 1 by unfold kPass; rw [if_neg (by omega)]) e9, _, rfl, by rw [upM_n (Or.inr (by decide)), upM_s, show kPass td x = 1 by unfold kPass; rw [if_neg (by omega)]], fun e9 => n10 (show kPass td x = 1 by unfold kPass; rw [if_neg (by omega)]) e9, fun _ => hmi.t.pas td0 td1⟩)
set_option maxHeartbeats 4000000 in
set_option maxRecDepth 100000 in
theorem c_m_today (l : Launch) (D : va_G) (cy : Nat → ClassId) (sa : Nat → Addr) (hfl : l.stackTraces = false) (ad : Nat → Nat) (M : Nat → Int → Int) (h : Int → Bool) (td : Int) (n : Nat) (q : Nat → Nat → Int) (rq : Nat → Nat) (hmi : MI h td n q rq M) : Ct l D cy sa yX3_today cX3_today 1 (some .int) 8 0 0 (ml cy ad M) [.ref (ad 0)] (fun v ws2 => v = some (vi td) ∧ ∃ M2, ws2 = ml cy ad M2 ∧ MI h td n q rq M2) no_x := by
  refine Ct.of (own := RX3) (lc := [(0, .ref (ad 0))]) (by decide +kernel) hfl (Nat.le_of_ble_eq_true rfl) rfl rfl ?_
  intro p e s m args below meth c A C hex hnm
  generalize hQ : vx_MQ below (Qo D (fun v ws2 => v = some (vi td) ∧ ∃ M2, ws2 = ml cy ad M2 ∧ MI h td n q rq M2) A) (Xo D no_x A) args s 0 0 A = Q
  replace hQ := hQ.symm
  obtain ⟨hch, ⟨htd, td0, td1⟩, ⟨hmn, hn8⟩, hR, hZ, hQ12⟩ := id hmi
  refine V.aload_n C dX3_today_0 0 rfl ?_
  refine V.iconst C dX3_today_1 ?_
  refine V.putf C (v := vi 0) (ty := .int) 0 rfl rfl inX3 tyX3 tyX3_ok nmX3 0 (by decide) fl_X3_56 (fun _ h => h) rfl (by decide +kernel) rfl rfl (Nat.le_of_ble_eq_true rfl) dX3_today_2 mput_0_0 ?_
  refine V.aload_n C dX3_today_5 0 rfl ?_
  refine V.getf C (v := vi td) 0 rfl rfl inX3 1 (by decide) fl_X3_81 (fun _ h => h) (by show some _ = some _; rw [upM_n (Or.inr (by decide)), hmi.2.1.1]) dX3_today_6 ?_
  rw [hQ]
  exact V.iret C dX3_today_9 (by decide) (by decide) (⟨rfl, _, rfl, hmi.t⟩)
set_option maxHeartbeats 4000000 in
set_option maxRecDepth 100000 in
theorem c_m_rules (l : Launch) (D : va_G) (cy : Nat → ClassId) (sa : Nat → Addr) (hfl : l.stackTraces = false) (ad : Nat → Nat) (M : Nat → Int → Int) (h : Int → Bool) (td : Int) (n : Nat) (q : Nat → Nat → Int) (rq : Nat → Nat) (hmi : MI h td n q rq M) : Ct l D cy sa yX3_rules cX3_rules 1 (some .int) 8 0 0 (ml cy ad M) [.ref (ad 0)] (fun v ws2 => v = some (vi (n : Int)) ∧ ∃ M2, ws2 = ml cy ad M2 ∧ MI h td n q rq M2) no_x := by
  refine Ct.of (own := RX3) (lc := [(0, .ref (ad 0))]) (by decide +kernel) hfl (Nat.le_of_ble_eq_true rfl) rfl rfl ?_
  intro p e s m args below meth c A C hex hnm
  generalize hQ : vx_MQ below (Qo D (fun v ws2 => v = some (vi (n : Int)) ∧ ∃ M2, ws2 = ml cy ad M2 ∧ MI h td n q rq M2) A) (Xo D no_x A) args s 0 0 A = Q
  replace hQ := hQ.symm
  obtain ⟨hch, ⟨htd, td0, td1⟩, ⟨hmn, hn8⟩, hR, hZ, hQ12⟩ := id hmi
  refine V.aload_n C dX3_rules_0 0 rfl ?_
  refine V.iconst C dX3_rules_1 ?_
  refine V.putf C (v := vi 0) (ty := .int) 0 rfl rfl inX3 tyX3 tyX3_ok nmX3 0 (by decide) fl_X3_56 (fun _ h => h) rfl (by decide +kernel) rfl rfl (Nat.le_of_ble_eq_true rfl) dX3_rules_2 mput_0_0 ?_
  refine V.aload_n C dX3_rules_5 0 rfl ?_
  refine V.getf C (v := vi (n : Int)) 0 rfl rfl inX3 3 (by decide) fl_X3_64 (fun _ h => h) (by show some _ = some _; rw [upM_n (Or.inr (by decide)), hmi.2.2.1.1]) dX3_rules_6 ?_
  rw [hQ]
  exact V.iret C dX3_rules_9 (by decide) (by decide) (⟨rfl, _, rfl, hmi.t⟩)
set_option maxHeartbeats 4000000 in
set_option maxRecDepth 100000 in
theorem c_m_finished (l : Launch) (D : va_G) (cy : Nat → ClassId) (sa : Nat → Addr) (hfl : l.stackTraces = false) (ad : Nat → Nat) (M : Nat → Int → Int) (h : Int → Bool) (td : Int) (n : Nat) (q : Nat → Nat → Int) (rq : Nat → Nat) (hmi : MI h td n q rq M) (x : Int) (hx : inR x) : Ct l D cy sa yX3_finished cX3_finished 2 (some .int) 8 0 0 (ml cy ad M) [.ref (ad 0), vi x] (fun v ws2 => ∃ y, v = some (vi y) ∧ ((kRule n x) = 0 → y = q x.toNat 8) ∧ ∃ M2, ws2 = ml cy ad M2 ∧ M2 0 0 = (kRule n x) ∧ MI h td n q rq M2) no_x := by
  refine Ct.of (own := RX3) (lc := [(0, .ref (ad 0)), (1, vi x)]) (by decide +kernel) hfl (Nat.le_of_ble_eq_true rfl) rfl rfl ?_
  intro p e s m args below meth c A C hex hnm
  generalize hQ : vx_MQ below (Qo D (fun v ws2 => ∃ y, v = some (vi y) ∧ ((kRule n x) = 0 → y = q x.toNat 8) ∧ ∃ M2, ws2 = ml cy ad M2 ∧ M2 0 0 = (kRule n x) ∧ MI h td n q rq M2) A) (Xo D no_x A) args s 0 0 A = Q
  replace hQ := hQ.symm
  obtain ⟨hch, ⟨htd, td0, td1⟩, ⟨hmn, hn8⟩, hR, hZ, hQ12⟩ := id hmi
  obtain ⟨hxl, hxr⟩ := hx
  refine V.aload_n C dX3_finished_0 0 rfl ?_
  refine V.iconst C dX3_finished_1 ?_
  refine V.putf C (v := vi 0) (ty := .int) 0 rfl rfl inX3 tyX3 tyX3_ok nmX3 0 (by decide) fl_X3_56 (fun _ h => h) rfl (by decide +kernel) rfl rfl (Nat.le_of_ble_eq_true rfl) dX3_finished_2 mput_0_0 ?_
  refine V.aload_n C dX3_finished_5 0 rfl ?_
  refine V.iload_n C dX3_finished_6 1 rfl ?_
  refine V.callV C (As := [vi x]) (st := []) (wr := []) kV_X3_84 (c_m_isRule l D cy sa hfl ad (upM M 0 0 0) n (by rw [upM_n (Or.inr (by decide))]; exact hmi.2.2.1.1) hn8 x ⟨by omega, by omega⟩) rfl 0 rfl rfl rfl rfl (Nat.le_of_ble_eq_true rfl) ⟨by decide, by decide⟩ ⟨by decide, by decide⟩ dX3_finished_7 (fun _ _ h => h.elim) (fun v1 w2 r3 => ?_)
  obtain ⟨rfl, hw2⟩ := r3
  rw [hw2]
  show V D 2 A p l e (rmL 8 0 0) s m args below meth c Q 0 0 (ml cy ad (upM M 0 0 0)) 10 [(0, .ref (ad 0)), (1, vi x)] [vi (bI (isR n x))]
  refine V.if_eqB C 22 dX3_finished_10 (by decide) (fun h10 => ?_) (fun h10 => ?_)
  · skip
    refine V.aload_n C dX3_finished_22 0 rfl ?_
    refine V.iconst C dX3_finished_23 ?_
    refine V.callV C (As := [vi 1]) (st := []) (wr := []) kV_X3_113 (c_m_fails l D cy sa hfl ad (upM M 0 0 0) 1) rfl 0 rfl rfl rfl rfl (Nat.le_of_ble_eq_true rfl) ⟨by decide, by decide⟩ ⟨by decide, by decide⟩ dX3_finished_24 (fun _ _ h => h.elim) (fun v4 w5 r6 => ?_)
    obtain ⟨rfl, hw5⟩ := r6
    rw [hw5]
    show V D 2 A p l e (rmL 8 0 0) s m args below meth c Q 0 0 (ml cy ad (upM (upM M 0 0 0) 0 0 1)) 27 [(0, .ref (ad 0)), (1, vi x)] [vi 0]
    rw [hQ]
    exact V.iret C dX3_finished_27 (by decide) (by decide) (⟨_, rfl, fun e9 => n10 (kRule_f h10) e9, _, rfl, by rw [upM_s, kRule_f h10], hmi.t.t⟩)
  · skip
    obtain ⟨gx0, gx1⟩ := isR_iff.mp h10
    refine V.aload_n C dX3_finished_13 0 rfl ?_
    refine V.getf C (v := .ref (ad 10)) 0 rfl rfl inX3 10 (by decide) fl_X3_32 (fun _ h => h) rfl dX3_finished_14 ?_
    refine V.iload_n C dX3_finished_17 1 rfl ?_
    refine V.iald C (v := q (x).toNat 8) 8 rfl (by omega) (by omega) (by decide) (ld_ar (by omega) (by rw [upM_n (Or.inl (by decide))]; exact (hR _ (by omega) (by omega)).1.2.2.2.2.2.2.1)) dX3_finished_18 ?_
    refine V.goto C 27 dX3_finished_19 (by decide) ?_
    rw [hQ]
    exact V.iret C dX3_finished_27 (by decide) (by decide) (⟨_, rfl, fun _ => rfl, _, rfl, by rw [upM_s, kRule_t h10], hmi.t⟩)
set_option maxHeartbeats 4000000 in
set_option maxRecDepth 100000 in
theorem c_m_setShift (l : Launch) (D : va_G) (cy : Nat → ClassId) (sa : Nat → Addr) (hfl : l.stackTraces = false) (ad : Nat → Nat) (M : Nat → Int → Int) (h : Int → Bool) (td : Int) (n : Nat) (q : Nat → Nat → Int) (rq : Nat → Nat) (hmi : MI h td n q rq M) (x : Int) (hx : inR x) (z : Int) (hz : inR z) : Ct l D cy sa yX3_setShift cX3_setShift 4 (some .int) 8 0 0 (ml cy ad M) [.ref (ad 0), vi x, vi z] (fun v ws2 => ∃ y, v = some (vi y) ∧ ((kShift n x z) = 0 → y = q x.toNat 5) ∧ ∃ M2, ws2 = ml cy ad M2 ∧ M2 0 0 = (kShift n x z) ∧ ((kShift n x z) = 0 → MI h td n (qsh q x.toNat z) rq M2) ∧ ((kShift n x z) ≠ 0 → MI h td n q rq M2)) no_x := by
  refine Ct.of (own := RX3) (lc := [(0, .ref (ad 0)), (1, vi x), (2, vi z)]) (by decide +kernel) hfl (Nat.le_of_ble_eq_true rfl) rfl rfl ?_
  intro p e s m args below meth c A C hex hnm
  generalize hQ : vx_MQ below (Qo D (fun v ws2 => ∃ y, v = some (vi y) ∧ ((kShift n x z) = 0 → y = q x.toNat 5) ∧ ∃ M2, ws2 = ml cy ad M2 ∧ M2 0 0 = (kShift n x z) ∧ ((kShift n x z) = 0 → MI h td n (qsh q x.toNat z) rq M2) ∧ ((kShift n x z) ≠ 0 → MI h td n q rq M2)) A) (Xo D no_x A) args s 0 0 A = Q
  replace hQ := hQ.symm
  obtain ⟨hch, ⟨htd, td0, td1⟩, ⟨hmn, hn8⟩, hR, hZ, hQ12⟩ := id hmi
  obtain ⟨hxl, hxr⟩ := hx
  obtain ⟨hzl, hzr⟩ := hz
  refine V.aload_n C dX3_setShift_0 0 rfl ?_
  refine V.aload_n C dX3_setShift_1 0 rfl ?_
  refine V.iload_n C dX3_setShift_2 1 rfl ?_
  refine V.callV C (As := [vi x]) (st := [.ref (ad 0)]) (wr := []) kV_X3_84 (c_m_isRule l D cy sa hfl ad M n hmi.2.2.1.1 hn8 x ⟨by omega, by omega⟩) rfl 0 rfl rfl rfl rfl (Nat.le_of_ble_eq_true rfl) ⟨by decide, by decide⟩ ⟨by decide, by decide⟩ dX3_setShift_3 (fun _ _ h => h.elim) (fun v1 w2 r3 => ?_)
  obtain ⟨rfl, hw2⟩ := r3
  rw [hw2]
  show V D 4 A p l e (rmL 8 0 0) s m args below meth c Q 0 0 (ml cy ad M) 6 [(0, .ref (ad 0)), (1, vi x), (2, vi z)] [vi (bI (isR n x)), .ref (ad 0)]
  refine V.if_neB C 13 dX3_setShift_6 (by decide) (fun h6 => ?_) (fun h6 => ?_)
  · skip
    obtain ⟨gx0, gx1⟩ := isR_iff.mp h6
    refine V.iload_n C dX3_setShift_13 2 rfl ?_
    refine V.iconst C dX3_setShift_14 ?_
    refine V.iconst C dX3_setShift_15 ?_
    refine V.callS C (As := [vi z, vi 0, vi 2]) (st := [.ref (ad 0)]) (wr := []) kS_X3_60 (c_m_in l D cy sa hfl _ z 0 2 ⟨by omega, by omega⟩ ⟨by decide, by decide⟩ ⟨by decide, by decide⟩) rfl rfl rfl (Nat.le_of_ble_eq_true rfl) ⟨by decide, by decide⟩ ⟨by decide, by decide⟩ dX3_setShift_16 (fun _ _ h => h.elim) (fun v4 w5 r6 => ?_)
    obtain ⟨rfl, hw5⟩ := r6
    rw [hw5]
    show V D 4 A p l e (rmL 8 0 0) s m args below meth c Q 0 0 (ml cy ad M) 19 [(0, .ref (ad 0)), (1, vi x), (2, vi z)] [vi (bI (inB z 0 2)), .ref (ad 0)]
    refine V.if_eqB C 26 dX3_setShift_19 (by decide) (fun h19 => ?_) (fun h19 => ?_)
    · skip
      have i19 := inB_f.mp h19
      refine V.iconst C dX3_setShift_26 ?_
      refine V.putf C (v := vi 2) (ty := .int) 0 rfl rfl inX3 tyX3 tyX3_ok nmX3 0 (by decide) fl_X3_56 (fun _ h => h) rfl (by decide +kernel) rfl rfl (Nat.le_of_ble_eq_true rfl) dX3_setShift_27 mput_0_0 ?_
      refine V.aload_n C dX3_setShift_30 0 rfl ?_
      refine V.getf C (v := vi 2) 0 rfl rfl inX3 0 (by decide) fl_X3_56 (fun _ h => h) (by show some _ = some _; rw [upM_s]) dX3_setShift_31 ?_
      refine V.if_le C 39 dX3_setShift_34 (by decide) ⟨by decide, by decide⟩ (fun h34 => (by exact absurd h34 (by decide))) (fun h34 => ?_)
      refine V.iconst C dX3_setShift_37 ?_
      rw [hQ]
      exact V.iret C dX3_setShift_38 (by decide) (by decide) (⟨_, rfl, fun e9 => n20 (show kShift n x z = 2 by rw [kShift, if_pos ⟨gx0, gx1⟩, if_neg (by omega)]) e9, _, rfl, by rw [upM_s, show kShift n x z = 2 by rw [kShift, if_pos ⟨gx0, gx1⟩, if_neg (by omega)]], fun e9 => n20 (show kShift n x z = 2 by rw [kShift, if_pos ⟨gx0, gx1⟩, if_neg (by omega)]) e9, fun _ => hmi.t⟩)
    · skip
      have i19 := inB_iff.mp h19
      refine V.iconst C dX3_setShift_22 ?_
      refine V.goto C 27 dX3_setShift_23 (by decide) ?_
      refine V.putf C (v := vi 0) (ty := .int) 0 rfl rfl inX3 tyX3 tyX3_ok nmX3 0 (by decide) fl_X3_56 (fun _ h => h) rfl (by decide +kernel) rfl rfl (Nat.le_of_ble_eq_true rfl) dX3_setShift_27 mput_0_0 ?_
      refine V.aload_n C dX3_setShift_30 0 rfl ?_
      refine V.getf C (v := vi 0) 0 rfl rfl inX3 0 (by decide) fl_X3_56 (fun _ h => h) (by show some _ = some _; rw [upM_s]) dX3_setShift_31 ?_
      refine V.if_le C 39 dX3_setShift_34 (by decide) ⟨by decide, by decide⟩ (fun h34 => ?_) (fun h34 => (by exact absurd h34 (by decide)))
      refine V.aload_n C dX3_setShift_39 0 rfl ?_
      refine V.getf C (v := .ref (ad 6)) 0 rfl rfl inX3 6 (by decide) fl_X3_20 (fun _ h => h) rfl dX3_setShift_40 ?_
      refine V.iload_n C dX3_setShift_43 1 rfl ?_
      refine V.iald C (v := q (x).toNat 5) 4 rfl (by omega) (by omega) (by decide) (ld_ar (by omega) (by rw [upM_n (Or.inl (by decide))]; exact (hR _ (by omega) (by omega)).1.2.2.1)) dX3_setShift_44 ?_
      refine V.istore_n C (lc2 := [(3, vi (q (x).toNat 5)), (0, .ref (ad 0)), (1, vi x), (2, vi z)]) dX3_setShift_45 (by decide) rfl ?_
      refine V.aload_n C dX3_setShift_46 1 rfl ?_
      refine V.getf C (v := .ref (ad 6)) 0 rfl rfl inX3 6 (by decide) fl_X3_20 (fun _ h => h) rfl dX3_setShift_47 ?_
      refine V.iload_n C dX3_setShift_50 2 rfl ?_
      refine V.iload_n C dX3_setShift_51 3 rfl ?_
      refine V.iast C 4 rfl (by omega) (by omega) (by decide) dX3_setShift_52 (mput_6 (by omega)) ?_
      refine V.iload_n C dX3_setShift_53 0 rfl ?_
      rw [hQ]
      exact V.iret C dX3_setShift_54 (by decide) (by decide) (⟨_, rfl, fun _ => rfl, _, rfl, by rw [upM_n (Or.inl (by decide)), upM_s, show kShift n x z = 0 by rw [kShift, if_pos ⟨gx0, gx1⟩, if_pos i19]], fun _ => hmi.t.sh gx0 gx1 i19.1 i19.2, fun e9 => absurd (show kShift n x z = 0 by rw [kShift, if_pos ⟨gx0, gx1⟩, if_pos i19]) e9⟩)
  · skip
    refine V.iconst C dX3_setShift_9 ?_
    refine V.goto C 27 dX3_setShift_10 (by decide) ?_
    refine V.putf C (v := vi 1) (ty := .int) 0 rfl rfl inX3 tyX3 tyX3_ok nmX3 0 (by decide) fl_X3_56 (fun _ h => h) rfl (by decide +kernel) rfl rfl (Nat.le_of_ble_eq_true rfl) dX3_setShift_27 mput_0_0 ?_
    refine V.aload_n C dX3_setShift_30 0 rfl ?_
    refine V.getf C (v := vi 1) 0 rfl rfl inX3 0 (by decide) fl_X3_56 (fun _ h => h) (by show some _ = some _; rw [upM_s]) dX3_setShift_31 ?_
    refine V.if_le C 39 dX3_setShift_34 (by decide) ⟨by decide, by decide⟩ (fun h34 => (by exact absurd h34 (by decide))) (fun h34 => ?_)
    refine V.iconst C dX3_setShift_37 ?_
    rw [hQ]
    exact V.iret C dX3_setShift_38 (by decide) (by decide) (⟨_, rfl, fun e9 => n10 (show kShift n x z = 1 by rw [kShift, if_neg (by have := isR_f.mp h6; omega)]) e9, _, rfl, by rw [upM_s, show kShift n x z = 1 by rw [kShift, if_neg (by have := isR_f.mp h6; omega)]], fun e9 => n10 (show kShift n x z = 1 by rw [kShift, if_neg (by have := isR_f.mp h6; omega)]) e9, fun _ => hmi.t⟩)
set_option maxHeartbeats 4000000 in
set_option maxRecDepth 100000 in
theorem c_m_isCovered (l : Launch) (D : va_G) (cy : Nat → ClassId) (sa : Nat → Addr) (hfl : l.stackTraces = false) (ad : Nat → Nat) (M : Nat → Int → Int) (h : Int → Bool) (td : Int) (n : Nat) (q : Nat → Nat → Int) (rq : Nat → Nat) (hmi : MI h td n q rq M) (x : Int) (hx : inR x) (z : Int) (hz : inR z) : Ct l D cy sa yX3_isCovered cX3_isCovered 3 (some .boolean) 8 0 0 (ml cy ad M) [.ref (ad 0), vi x, vi z] (fun v ws2 => ∃ y, v = some (vi (bI y)) ∧ ((kRD n x z) = 0 → y = covd (q x.toNat) z) ∧ ∃ M2, ws2 = ml cy ad M2 ∧ M2 0 0 = (kRD n x z) ∧ MI h td n q rq M2) no_x := by
  refine Ct.of (own := RX3) (lc := [(0, .ref (ad 0)), (1, vi x), (2, vi z)]) (by decide +kernel) hfl (Nat.le_of_ble_eq_true rfl) rfl rfl ?_
  intro p e s m args below meth c A C hex hnm
  generalize hQ : vx_MQ below (Qo D (fun v ws2 => ∃ y, v = some (vi (bI y)) ∧ ((kRD n x z) = 0 → y = covd (q x.toNat) z) ∧ ∃ M2, ws2 = ml cy ad M2 ∧ M2 0 0 = (kRD n x z) ∧ MI h td n q rq M2) A) (Xo D no_x A) args s 0 0 A = Q
  replace hQ := hQ.symm
  obtain ⟨hch, ⟨htd, td0, td1⟩, ⟨hmn, hn8⟩, hR, hZ, hQ12⟩ := id hmi
  obtain ⟨hxl, hxr⟩ := hx
  obtain ⟨hzl, hzr⟩ := hz
  refine V.aload_n C dX3_isCovered_0 0 rfl ?_
  refine V.aload_n C dX3_isCovered_1 0 rfl ?_
  refine V.iload_n C dX3_isCovered_2 1 rfl ?_
  refine V.callV C (As := [vi x]) (st := [.ref (ad 0)]) (wr := []) kV_X3_84 (c_m_isRule l D cy sa hfl ad M n hmi.2.2.1.1 hn8 x ⟨by omega, by omega⟩) rfl 0 rfl rfl rfl rfl (Nat.le_of_ble_eq_true rfl) ⟨by decide, by decide⟩ ⟨by decide, by decide⟩ dX3_isCovered_3 (fun _ _ h => h.elim) (fun v1 w2 r3 => ?_)
  obtain ⟨rfl, hw2⟩ := r3
  rw [hw2]
  show V D 3 A p l e (rmL 8 0 0) s m args below meth c Q 0 0 (ml cy ad M) 6 [(0, .ref (ad 0)), (1, vi x), (2, vi z)] [vi (bI (isR n x)), .ref (ad 0)]
  refine V.if_eqB C 20 dX3_isCovered_6 (by decide) (fun h6 => ?_) (fun h6 => ?_)
  · skip
    refine V.iconst C dX3_isCovered_20 ?_
    refine V.putf C (v := vi 1) (ty := .int) 0 rfl rfl inX3 tyX3 tyX3_ok nmX3 0 (by decide) fl_X3_56 (fun _ h => h) rfl (by decide +kernel) rfl rfl (Nat.le_of_ble_eq_true rfl) dX3_isCovered_21 mput_0_0 ?_
    refine V.aload_n C dX3_isCovered_24 0 rfl ?_
    refine V.getf C (v := vi 1) 0 rfl rfl inX3 0 (by decide) fl_X3_56 (fun _ h => h) (by show some _ = some _; rw [upM_s]) dX3_isCovered_25 ?_
    refine V.if_ne C 71 dX3_isCovered_28 (by decide) ⟨by decide, by decide⟩ (fun h28 => ?_) (fun h28 => (by exact absurd h28 (by decide)))
    refine V.iconst C dX3_isCovered_71 ?_
    show V D 3 A p l e (rmL 8 0 0) s m args below meth c Q 0 0 (ml cy ad (upM M 0 0 1)) 72 [(0, .ref (ad 0)), (1, vi x), (2, vi z)] [vi (bI false)]
    rw [hQ]
    exact V.zret C dX3_isCovered_72 (by decide) (by decide) (⟨false, rfl, fun e9 => n10 (kRD_f h6) e9, _, rfl, by rw [upM_s, kRD_f h6], hmi.t⟩)
  · skip
    obtain ⟨gx0, gx1⟩ := isR_iff.mp h6
    obtain ⟨-, -, -, -, -, -, p4, -, -, p9⟩ := (hR x gx0 gx1).2
    refine V.iload_n C dX3_isCovered_9 2 rfl ?_
    refine V.callS C (As := [vi z]) (st := [.ref (ad 0)]) (wr := []) kS_X3_67 (c_m_isDay l D cy sa hfl _ z ⟨by omega, by omega⟩) rfl rfl rfl (Nat.le_of_ble_eq_true rfl) ⟨by decide, by decide⟩ ⟨by decide, by decide⟩ dX3_isCovered_10 (fun _ _ h => h.elim) (fun v4 w5 r6 => ?_)
    obtain ⟨rfl, hw5⟩ := r6
    rw [hw5]
    show V D 3 A p l e (rmL 8 0 0) s m args below meth c Q 0 0 (ml cy ad M) 13 [(0, .ref (ad 0)), (1, vi x), (2, vi z)] [vi (bI (isDy z)), .ref (ad 0)]
    refine V.if_eqB C 20 dX3_isCovered_13 (by decide) (fun h13 => ?_) (fun h13 => ?_)
    · skip
      refine V.iconst C dX3_isCovered_20 ?_
      refine V.putf C (v := vi 1) (ty := .int) 0 rfl rfl inX3 tyX3 tyX3_ok nmX3 0 (by decide) fl_X3_56 (fun _ h => h) rfl (by decide +kernel) rfl rfl (Nat.le_of_ble_eq_true rfl) dX3_isCovered_21 mput_0_0 ?_
      refine V.aload_n C dX3_isCovered_24 0 rfl ?_
      refine V.getf C (v := vi 1) 0 rfl rfl inX3 0 (by decide) fl_X3_56 (fun _ h => h) (by show some _ = some _; rw [upM_s]) dX3_isCovered_25 ?_
      refine V.if_ne C 71 dX3_isCovered_28 (by decide) ⟨by decide, by decide⟩ (fun h28 => ?_) (fun h28 => (by exact absurd h28 (by decide)))
      refine V.iconst C dX3_isCovered_71 ?_
      show V D 3 A p l e (rmL 8 0 0) s m args below meth c Q 0 0 (ml cy ad (upM M 0 0 1)) 72 [(0, .ref (ad 0)), (1, vi x), (2, vi z)] [vi (bI false)]
      rw [hQ]
      exact V.zret C dX3_isCovered_72 (by decide) (by decide) (⟨false, rfl, fun e9 => n10 (kRD_1b h13) e9, _, rfl, by rw [upM_s, kRD_1b h13], hmi.t⟩)
    · skip
      refine V.iconst C dX3_isCovered_16 ?_
      refine V.goto C 21 dX3_isCovered_17 (by decide) ?_
      refine V.putf C (v := vi 0) (ty := .int) 0 rfl rfl inX3 tyX3 tyX3_ok nmX3 0 (by decide) fl_X3_56 (fun _ h => h) rfl (by decide +kernel) rfl rfl (Nat.le_of_ble_eq_true rfl) dX3_isCovered_21 mput_0_0 ?_
      refine V.aload_n C dX3_isCovered_24 0 rfl ?_
      refine V.getf C (v := vi 0) 0 rfl rfl inX3 0 (by decide) fl_X3_56 (fun _ h => h) (by show some _ = some _; rw [upM_s]) dX3_isCovered_25 ?_
      refine V.if_ne C 71 dX3_isCovered_28 (by decide) ⟨by decide, by decide⟩ (fun h28 => (by exact absurd h28 (by decide))) (fun h28 => ?_)
      refine V.aload_n C dX3_isCovered_31 0 rfl ?_
      refine V.getf C (v := .ref (ad 11)) 0 rfl rfl inX3 11 (by decide) fl_X3_35 (fun _ h => h) rfl dX3_isCovered_32 ?_
      refine V.iload_n C dX3_isCovered_35 1 rfl ?_
      refine V.iald C (v := q (x).toNat 9) 9 rfl (by omega) (by omega) (by decide) (ld_ar (by omega) (by rw [upM_n (Or.inl (by decide))]; exact (hR _ (by omega) (by omega)).1.2.2.2.2.2.2.2)) dX3_isCovered_36 ?_
      refine V.iconst C dX3_isCovered_37 ?_
      refine V.icmp_eq C 71 dX3_isCovered_38 (by decide) ⟨by omega, by omega⟩ ⟨by decide, by decide⟩ (fun h38 => ?_) (fun h38 => ?_)
      · skip
        refine V.iconst C dX3_isCovered_71 ?_
        show V D 3 A p l e (rmL 8 0 0) s m args below meth c Q 0 0 (ml cy ad (upM M 0 0 0)) 72 [(0, .ref (ad 0)), (1, vi x), (2, vi z)] [vi (bI false)]
        rw [hQ]
        exact V.zret C dX3_isCovered_72 (by decide) (by decide) (⟨_, rfl, fun _ => by rw [covd, decide_eq_true h38]; rfl, _, rfl, by rw [upM_s, kRD_t h6 h13], hmi.t⟩)
      · skip
        refine V.iload_n C dX3_isCovered_41 2 rfl ?_
        refine V.aload_n C dX3_isCovered_42 0 rfl ?_
        refine V.getf C (v := .ref (ad 11)) 0 rfl rfl inX3 11 (by decide) fl_X3_35 (fun _ h => h) rfl dX3_isCovered_43 ?_
        refine V.iload_n C dX3_isCovered_46 1 rfl ?_
        refine V.iald C (v := q (x).toNat 9) 9 rfl (by omega) (by omega) (by decide) (ld_ar (by omega) (by rw [upM_n (Or.inl (by decide))]; exact (hR _ (by omega) (by omega)).1.2.2.2.2.2.2.2)) dX3_isCovered_47 ?_
        refine V.aload_n C dX3_isCovered_48 0 rfl ?_
        refine V.getf C (v := .ref (ad 11)) 0 rfl rfl inX3 11 (by decide) fl_X3_35 (fun _ h => h) rfl dX3_isCovered_49 ?_
        refine V.iload_n C dX3_isCovered_52 1 rfl ?_
        refine V.iald C (v := q (x).toNat 9) 9 rfl (by omega) (by omega) (by decide) (ld_ar (by omega) (by rw [upM_n (Or.inl (by decide))]; exact (hR _ (by omega) (by omega)).1.2.2.2.2.2.2.2)) dX3_isCovered_53 ?_
        refine V.aload_n C dX3_isCovered_54 0 rfl ?_
        refine V.getf C (v := .ref (ad 9)) 0 rfl rfl inX3 9 (by decide) fl_X3_29 (fun _ h => h) rfl dX3_isCovered_55 ?_
        refine V.iload_n C dX3_isCovered_58 1 rfl ?_
        refine V.iald C (v := q (x).toNat 4) 7 rfl (by omega) (by omega) (by decide) (ld_ar (by omega) (by rw [upM_n (Or.inl (by decide))]; exact (hR _ (by omega) (by omega)).1.2.2.2.2.2.1)) dX3_isCovered_59 ?_
        refine V.iadd C dX3_isCovered_60 ?_
        refine V.callS C (As := [vi z, vi (q (x).toNat 9), vi ((q (x).toNat 9) + (q (x).toNat 4))]) (st := []) (wr := []) kS_X3_60 (c_m_in l D cy sa hfl _ z (q x.toNat 9) (q x.toNat 9 + q x.toNat 4) ⟨by omega, by omega⟩ ⟨by omega, by omega⟩ ⟨by omega, by omega⟩) rfl rfl rfl (Nat.le_of_ble_eq_true rfl) ⟨by decide, by decide⟩ ⟨by decide, by decide⟩ dX3_isCovered_61 (fun _ _ h => h.elim) (fun v7 w8 r9 => ?_)
        obtain ⟨rfl, hw8⟩ := r9
        rw [hw8]
        show V D 3 A p l e (rmL 8 0 0) s m args below meth c Q 0 0 (ml cy ad (upM M 0 0 0)) 64 [(0, .ref (ad 0)), (1, vi x), (2, vi z)] [vi (bI (inB z (q x.toNat 9) (q x.toNat 9 + q x.toNat 4)))]
        refine V.if_eqB C 71 dX3_isCovered_64 (by decide) (fun h64 => ?_) (fun h64 => ?_)
        · skip
          refine V.iconst C dX3_isCovered_71 ?_
          show V D 3 A p l e (rmL 8 0 0) s m args below meth c Q 0 0 (ml cy ad (upM M 0 0 0)) 72 [(0, .ref (ad 0)), (1, vi x), (2, vi z)] [vi (bI false)]
          rw [hQ]
          exact V.zret C dX3_isCovered_72 (by decide) (by decide) (⟨_, rfl, fun _ => by rw [covd, decide_eq_false h38, Bool.not_false, Bool.true_and]; exact h64.symm, _, rfl, by rw [upM_s, kRD_t h6 h13], hmi.t⟩)
        · skip
          refine V.iconst C dX3_isCovered_67 ?_
          refine V.goto C 72 dX3_isCovered_68 (by decide) ?_
          show V D 3 A p l e (rmL 8 0 0) s m args below meth c Q 0 0 (ml cy ad (upM M 0 0 0)) 72 [(0, .ref (ad 0)), (1, vi x), (2, vi z)] [vi (bI true)]
          rw [hQ]
          exact V.zret C dX3_isCovered_72 (by decide) (by decide) (⟨_, rfl, fun _ => by rw [covd, decide_eq_false h38, Bool.not_false, Bool.true_and]; exact h64.symm, _, rfl, by rw [upM_s, kRD_t h6 h13], hmi.t⟩)
set_option maxHeartbeats 4000000 in
set_option maxRecDepth 100000 in
theorem c_m_lasts (l : Launch) (D : va_G) (cy : Nat → ClassId) (sa : Nat → Addr) (hfl : l.stackTraces = false) (ad : Nat → Nat) (M : Nat → Int → Int) (h : Int → Bool) (td : Int) (n : Nat) (q : Nat → Nat → Int) (rq : Nat → Nat) (hmi : MI h td n q rq M) (x : Int) (hx : inR x) : Ct l D cy sa yX3_lasts cX3_lasts 2 (some .int) 8 0 0 (ml cy ad M) [.ref (ad 0), vi x] (fun v ws2 => ∃ y, v = some (vi y) ∧ ((kLasts n q x) = 0 → y = q x.toNat 9 + q x.toNat 4 - td) ∧ ∃ M2, ws2 = ml cy ad M2 ∧ M2 0 0 = (kLasts n q x) ∧ MI h td n q rq M2) no_x := by
  refine Ct.of (own := RX3) (lc := [(0, .ref (ad 0)), (1, vi x)]) (by decide +kernel) hfl (Nat.le_of_ble_eq_true rfl) rfl rfl ?_
  intro p e s m args below meth c A C hex hnm
  generalize hQ : vx_MQ below (Qo D (fun v ws2 => ∃ y, v = some (vi y) ∧ ((kLasts n q x) = 0 → y = q x.toNat 9 + q x.toNat 4 - td) ∧ ∃ M2, ws2 = ml cy ad M2 ∧ M2 0 0 = (kLasts n q x) ∧ MI h td n q rq M2) A) (Xo D no_x A) args s 0 0 A = Q
  replace hQ := hQ.symm
  obtain ⟨hch, ⟨htd, td0, td1⟩, ⟨hmn, hn8⟩, hR, hZ, hQ12⟩ := id hmi
  obtain ⟨hxl, hxr⟩ := hx
  refine V.aload_n C dX3_lasts_0 0 rfl ?_
  refine V.aload_n C dX3_lasts_1 0 rfl ?_
  refine V.iload_n C dX3_lasts_2 1 rfl ?_
  refine V.callV C (As := [vi x]) (st := [.ref (ad 0)]) (wr := []) kV_X3_84 (c_m_isRule l D cy sa hfl ad M n hmi.2.2.1.1 hn8 x ⟨by omega, by omega⟩) rfl 0 rfl rfl rfl rfl (Nat.le_of_ble_eq_true rfl) ⟨by decide, by decide⟩ ⟨by decide, by decide⟩ dX3_lasts_3 (fun _ _ h => h.elim) (fun v1 w2 r3 => ?_)
  obtain ⟨rfl, hw2⟩ := r3
  rw [hw2]
  show V D 2 A p l e (rmL 8 0 0) s m args below meth c Q 0 0 (ml cy ad M) 6 [(0, .ref (ad 0)), (1, vi x)] [vi (bI (isR n x)), .ref (ad 0)]
  refine V.if_neB C 13 dX3_lasts_6 (by decide) (fun h6 => ?_) (fun h6 => ?_)
  · skip
    obtain ⟨gx0, gx1⟩ := isR_iff.mp h6
    obtain ⟨-, -, -, -, -, -, p4, -, -, p9⟩ := (hR x gx0 gx1).2
    refine V.aload_n C dX3_lasts_13 0 rfl ?_
    refine V.getf C (v := .ref (ad 11)) 0 rfl rfl inX3 11 (by decide) fl_X3_35 (fun _ h => h) rfl dX3_lasts_14 ?_
    refine V.iload_n C dX3_lasts_17 1 rfl ?_
    refine V.iald C (v := q (x).toNat 9) 9 rfl (by omega) (by omega) (by decide) (ld_ar (by omega) ((hR _ (by omega) (by omega)).1.2.2.2.2.2.2.2)) dX3_lasts_18 ?_
    refine V.iconst C dX3_lasts_19 ?_
    refine V.icmp_ne C 27 dX3_lasts_20 (by decide) ⟨by omega, by omega⟩ ⟨by decide, by decide⟩ (fun h20 => ?_) (fun h20 => ?_)
    · skip
      refine V.iconst C dX3_lasts_27 ?_
      refine V.putf C (v := vi 0) (ty := .int) 0 rfl rfl inX3 tyX3 tyX3_ok nmX3 0 (by decide) fl_X3_56 (fun _ h => h) rfl (by decide +kernel) rfl rfl (Nat.le_of_ble_eq_true rfl) dX3_lasts_28 mput_0_0 ?_
      refine V.aload_n C dX3_lasts_31 0 rfl ?_
      refine V.getf C (v := vi 0) 0 rfl rfl inX3 0 (by decide) fl_X3_56 (fun _ h => h) (by show some _ = some _; rw [upM_s]) dX3_lasts_32 ?_
      refine V.if_le C 42 dX3_lasts_35 (by decide) ⟨by decide, by decide⟩ (fun h35 => ?_) (fun h35 => (by exact absurd h35 (by decide)))
      refine V.aload_n C dX3_lasts_42 0 rfl ?_
      refine V.getf C (v := .ref (ad 11)) 0 rfl rfl inX3 11 (by decide) fl_X3_35 (fun _ h => h) rfl dX3_lasts_43 ?_
      refine V.iload_n C dX3_lasts_46 1 rfl ?_
      refine V.iald C (v := q (x).toNat 9) 9 rfl (by omega) (by omega) (by decide) (ld_ar (by omega) (by rw [upM_n (Or.inl (by decide))]; exact (hR _ (by omega) (by omega)).1.2.2.2.2.2.2.2)) dX3_lasts_47 ?_
      refine V.aload_n C dX3_lasts_48 0 rfl ?_
      refine V.getf C (v := .ref (ad 9)) 0 rfl rfl inX3 9 (by decide) fl_X3_29 (fun _ h => h) rfl dX3_lasts_49 ?_
      refine V.iload_n C dX3_lasts_52 1 rfl ?_
      refine V.iald C (v := q (x).toNat 4) 7 rfl (by omega) (by omega) (by decide) (ld_ar (by omega) (by rw [upM_n (Or.inl (by decide))]; exact (hR _ (by omega) (by omega)).1.2.2.2.2.2.1)) dX3_lasts_53 ?_
      refine V.iadd C dX3_lasts_54 ?_
      refine V.aload_n C dX3_lasts_55 0 rfl ?_
      refine V.getf C (v := vi td) 0 rfl rfl inX3 1 (by decide) fl_X3_81 (fun _ h => h) (by show some _ = some _; rw [upM_n (Or.inr (by decide)), hmi.2.1.1]) dX3_lasts_56 ?_
      refine V.isub C dX3_lasts_59 ?_
      rw [hQ]
      exact V.iret C dX3_lasts_60 (by decide) (by decide) (⟨_, rfl, fun _ => rfl, _, rfl, by rw [upM_s, show kLasts n q x = 0 by rw [kLasts, if_pos ⟨gx0, gx1⟩, if_neg h20]], hmi.t⟩)
    · skip
      refine V.iconst C dX3_lasts_23 ?_
      refine V.goto C 28 dX3_lasts_24 (by decide) ?_
      refine V.putf C (v := vi 2) (ty := .int) 0 rfl rfl inX3 tyX3 tyX3_ok nmX3 0 (by decide) fl_X3_56 (fun _ h => h) rfl (by decide +kernel) rfl rfl (Nat.le_of_ble_eq_true rfl) dX3_lasts_28 mput_0_0 ?_
      refine V.aload_n C dX3_lasts_31 0 rfl ?_
      refine V.getf C (v := vi 2) 0 rfl rfl inX3 0 (by decide) fl_X3_56 (fun _ h => h) (by show some _ = some _; rw [upM_s]) dX3_lasts_32 ?_
      refine V.if_le C 42 dX3_lasts_35 (by decide) ⟨by decide, by decide⟩ (fun h35 => (by exact absurd h35 (by decide))) (fun h35 => ?_)
      refine V.iconst C dX3_lasts_38 ?_
      refine V.goto C 60 dX3_lasts_39 (by decide) ?_
      rw [hQ]
      exact V.iret C dX3_lasts_60 (by decide) (by decide) (⟨_, rfl, fun e9 => n20 (show kLasts n q x = 2 by rw [kLasts, if_pos ⟨gx0, gx1⟩, if_pos h20]) e9, _, rfl, by rw [upM_s, show kLasts n q x = 2 by rw [kLasts, if_pos ⟨gx0, gx1⟩, if_pos h20]], hmi.t⟩)
  · skip
    refine V.iconst C dX3_lasts_9 ?_
    refine V.goto C 28 dX3_lasts_10 (by decide) ?_
    refine V.putf C (v := vi 1) (ty := .int) 0 rfl rfl inX3 tyX3 tyX3_ok nmX3 0 (by decide) fl_X3_56 (fun _ h => h) rfl (by decide +kernel) rfl rfl (Nat.le_of_ble_eq_true rfl) dX3_lasts_28 mput_0_0 ?_
    refine V.aload_n C dX3_lasts_31 0 rfl ?_
    refine V.getf C (v := vi 1) 0 rfl rfl inX3 0 (by decide) fl_X3_56 (fun _ h => h) (by show some _ = some _; rw [upM_s]) dX3_lasts_32 ?_
    refine V.if_le C 42 dX3_lasts_35 (by decide) ⟨by decide, by decide⟩ (fun h35 => (by exact absurd h35 (by decide))) (fun h35 => ?_)
    refine V.iconst C dX3_lasts_38 ?_
    refine V.goto C 60 dX3_lasts_39 (by decide) ?_
    rw [hQ]
    exact V.iret C dX3_lasts_60 (by decide) (by decide) (⟨_, rfl, fun e9 => n10 (show kLasts n q x = 1 by rw [kLasts, if_neg (by have := isR_f.mp h6; omega)]) e9, _, rfl, by rw [upM_s, show kLasts n q x = 1 by rw [kLasts, if_neg (by have := isR_f.mp h6; omega)]], hmi.t⟩)
set_option maxHeartbeats 4000000 in
set_option maxRecDepth 100000 in
theorem c_m_addRule (l : Launch) (D : va_G) (cy : Nat → ClassId) (sa : Nat → Addr) (hfl : l.stackTraces = false) (ad : Nat → Nat) (M : Nat → Int → Int) (h : Int → Bool) (td : Int) (n : Nat) (q : Nat → Nat → Int) (rq : Nat → Nat) (hmi : MI h td n q rq M) (hb : ∀ i, i < n → ∀ j, (rq i).testBit j = true → j < n) (kd : Int) (hkd : inR kd) (nn : Int) (hnn : inR nn) (sh : Int) (hsh : inR sh) (fs : Int) (hfs : inR fs) (ef : Int) (hef : inR ef) (va : Int) (hva : inR va) : Ct l D cy sa yX3_addRule cX3_addRule 10 (some .int) 8 0 0 (ml cy ad M) [.ref (ad 0), vi kd, vi nn, vi sh, vi fs, vi ef, vi va] (fun v ws2 => ∃ y, v = some (vi y) ∧ ((kAdd n kd nn sh fs ef va) = 0 → y = (n : Int)) ∧ ∃ M2, ws2 = ml cy ad M2 ∧ M2 0 0 = (kAdd n kd nn sh fs ef va) ∧ ((kAdd n kd nn sh fs ef va) = 0 → MI h td (n + 1) (qA q n (pN kd nn fs ef va sh)) (mA rq n) M2) ∧ ((kAdd n kd nn sh fs ef va) ≠ 0 → MI h td n q rq M2)) no_x := by
  refine Ct.of (own := RX3) (lc := [(0, .ref (ad 0)), (1, vi kd), (2, vi nn), (3, vi sh), (4, vi fs), (5, vi ef), (6, vi va)]) (by decide +kernel) hfl (Nat.le_of_ble_eq_true rfl) rfl rfl ?_
  intro p e s m args below meth c A C hex hnm
  generalize hQ : vx_MQ below (Qo D (fun v ws2 => ∃ y, v = some (vi y) ∧ ((kAdd n kd nn sh fs ef va) = 0 → y = (n : Int)) ∧ ∃ M2, ws2 = ml cy ad M2 ∧ M2 0 0 = (kAdd n kd nn sh fs ef va) ∧ ((kAdd n kd nn sh fs ef va) = 0 → MI h td (n + 1) (qA q n (pN kd nn fs ef va sh)) (mA rq n) M2) ∧ ((kAdd n kd nn sh fs ef va) ≠ 0 → MI h td n q rq M2)) A) (Xo D no_x A) args s 0 0 A = Q
  replace hQ := hQ.symm
  obtain ⟨hch, ⟨htd, td0, td1⟩, ⟨hmn, hn8⟩, hR, hZ, hQ12⟩ := id hmi
  obtain ⟨hkdl, hkdr⟩ := hkd
  obtain ⟨hnnl, hnnr⟩ := hnn
  obtain ⟨hshl, hshr⟩ := hsh
  obtain ⟨hfsl, hfsr⟩ := hfs
  obtain ⟨hefl, hefr⟩ := hef
  obtain ⟨hval, hvar⟩ := hva
  have join93 : ∀ (b : Bool), (b = true ↔ ((0 ≤ kd ∧ kd ≤ 3) ∧ (kd = 0 → 1 ≤ nn ∧ nn ≤ 60) ∧ (kd = 1 → 0 ≤ nn ∧ nn ≤ 29) ∧ (2 ≤ kd → 1 ≤ nn ∧ nn ≤ 22)) ∧ (0 ≤ sh ∧ sh ≤ 2) ∧ (1 ≤ ef ∧ ef ≤ 9) ∧ (0 ≤ va ∧ va ≤ 99)) → V D 10 A p l e (rmL 8 0 0) s m args below meth c Q 0 0 (ml cy ad M) 93 [(9, vi (bI b)), (0, .ref (ad 0)), (1, vi kd), (2, vi nn), (3, vi sh), (4, vi fs), (5, vi ef), (6, vi va)] [] := by
    intro b e0
    refine V.aload_n C dX3_addRule_93 1 rfl ?_
    refine V.iload C dX3_addRule_94 5 rfl ?_
    refine V.callS C (As := [vi fs]) (st := [.ref (ad 0)]) (wr := []) kS_X3_67 (c_m_isDay l D cy sa hfl _ fs ⟨by omega, by omega⟩) rfl rfl rfl (Nat.le_of_ble_eq_true rfl) ⟨by decide, by decide⟩ ⟨by decide, by decide⟩ dX3_addRule_96 (fun _ _ h => h.elim) (fun v1 w2 r3 => ?_)
    obtain ⟨rfl, hw2⟩ := r3
    rw [hw2]
    show V D 10 A p l e (rmL 8 0 0) s m args below meth c Q 0 0 (ml cy ad M) 99 [(9, vi (bI b)), (0, .ref (ad 0)), (1, vi kd), (2, vi nn), (3, vi sh), (4, vi fs), (5, vi ef), (6, vi va)] [vi (bI (isDy fs)), .ref (ad 0)]
    refine V.if_neB C 106 dX3_addRule_99 (by decide) (fun h99 => ?_) (fun h99 => ?_)
    · skip
      have gfs := isDy_iff.mp h99
      obtain ⟨gfs0, gfs1⟩ := gfs
      refine V.iload C dX3_addRule_106 0 rfl ?_
      refine V.if_neB C 115 dX3_addRule_108 (by decide) (fun h108 => ?_) (fun h108 => ?_)
      · skip
        refine V.aload_n C dX3_addRule_115 1 rfl ?_
        refine V.getf C (v := vi (n : Int)) 0 rfl rfl inX3 3 (by decide) fl_X3_64 (fun _ h => h) (by show some _ = some _; rw [hmi.2.2.1.1]) dX3_addRule_116 ?_
        refine V.bipush C dX3_addRule_119 (by decide) ?_
        refine V.icmp_ne C 128 dX3_addRule_121 (by decide) ⟨by omega, by omega⟩ ⟨by decide, by decide⟩ (fun h121 => ?_) (fun h121 => ?_)
        · skip
          refine V.iconst C dX3_addRule_128 ?_
          refine V.putf C (v := vi 0) (ty := .int) 0 rfl rfl inX3 tyX3 tyX3_ok nmX3 0 (by decide) fl_X3_56 (fun _ h => h) rfl (by decide +kernel) rfl rfl (Nat.le_of_ble_eq_true rfl) dX3_addRule_129 mput_0_0 ?_
          refine V.aload_n C dX3_addRule_132 1 rfl ?_
          refine V.getf C (v := vi 0) 0 rfl rfl inX3 0 (by decide) fl_X3_56 (fun _ h => h) (by show some _ = some _; rw [upM_s]) dX3_addRule_133 ?_
          refine V.if_le C 141 dX3_addRule_136 (by decide) ⟨by decide, by decide⟩ (fun h136 => ?_) (fun h136 => (by exact absurd h136 (by decide)))
          refine V.aload_n C dX3_addRule_141 1 rfl ?_
          refine V.getf C (v := .ref (ad 4)) 0 rfl rfl inX3 4 (by decide) fl_X3_13 (fun _ h => h) rfl dX3_addRule_142 ?_
          refine V.aload_n C dX3_addRule_145 1 rfl ?_
          refine V.getf C (v := vi (n : Int)) 0 rfl rfl inX3 3 (by decide) fl_X3_64 (fun _ h => h) (by show some _ = some _; rw [upM_n (Or.inr (by decide)), hmi.2.2.1.1]) dX3_addRule_146 ?_
          refine V.iload_n C dX3_addRule_149 2 rfl ?_
          refine V.iast C 2 rfl (by omega) (by omega) (by decide) dX3_addRule_150 (mput_4 (by omega)) ?_
          refine V.aload_n C dX3_addRule_151 1 rfl ?_
          refine V.getf C (v := .ref (ad 5)) 0 rfl rfl inX3 5 (by decide) fl_X3_17 (fun _ h => h) rfl dX3_addRule_152 ?_
          refine V.aload_n C dX3_addRule_155 1 rfl ?_
          refine V.getf C (v := vi (n : Int)) 0 rfl rfl inX3 3 (by decide) fl_X3_64 (fun _ h => h) (by show some _ = some _; rw [upM_n (Or.inl (by decide)), upM_n (Or.inr (by decide)), hmi.2.2.1.1]) dX3_addRule_156 ?_
          refine V.iload_n C dX3_addRule_159 3 rfl ?_
          refine V.iast C 3 rfl (by omega) (by omega) (by decide) dX3_addRule_160 (mput_5 (by omega)) ?_
          refine V.aload_n C dX3_addRule_161 1 rfl ?_
          refine V.getf C (v := .ref (ad 6)) 0 rfl rfl inX3 6 (by decide) fl_X3_20 (fun _ h => h) rfl dX3_addRule_162 ?_
          refine V.aload_n C dX3_addRule_165 1 rfl ?_
          refine V.getf C (v := vi (n : Int)) 0 rfl rfl inX3 3 (by decide) fl_X3_64 (fun _ h => h) (by show some _ = some _; rw [upM_n (Or.inl (by decide)), upM_n (Or.inl (by decide)), upM_n (Or.inr (by decide)), hmi.2.2.1.1]) dX3_addRule_166 ?_
          refine V.iload_n C dX3_addRule_169 4 rfl ?_
          refine V.iast C 4 rfl (by omega) (by omega) (by decide) dX3_addRule_170 (mput_6 (by omega)) ?_
          refine V.aload_n C dX3_addRule_171 1 rfl ?_
          refine V.getf C (v := .ref (ad 7)) 0 rfl rfl inX3 7 (by decide) fl_X3_23 (fun _ h => h) rfl dX3_addRule_172 ?_
          refine V.aload_n C dX3_addRule_175 1 rfl ?_
          refine V.getf C (v := vi (n : Int)) 0 rfl rfl inX3 3 (by decide) fl_X3_64 (fun _ h => h) (by show some _ = some _; rw [upM_n (Or.inl (by decide)), upM_n (Or.inl (by decide)), upM_n (Or.inl (by decide)), upM_n (Or.inr (by decide)), hmi.2.2.1.1]) dX3_addRule_176 ?_
          refine V.iload C dX3_addRule_179 5 rfl ?_
          refine V.iast C 5 rfl (by omega) (by omega) (by decide) dX3_addRule_181 (mput_7 (by omega)) ?_
          refine V.aload_n C dX3_addRule_182 1 rfl ?_
          refine V.getf C (v := .ref (ad 8)) 0 rfl rfl inX3 8 (by decide) fl_X3_26 (fun _ h => h) rfl dX3_addRule_183 ?_
          refine V.aload_n C dX3_addRule_186 1 rfl ?_
          refine V.getf C (v := vi (n : Int)) 0 rfl rfl inX3 3 (by decide) fl_X3_64 (fun _ h => h) (by show some _ = some _; rw [upM_n (Or.inl (by decide)), upM_n (Or.inl (by decide)), upM_n (Or.inl (by decide)), upM_n (Or.inl (by decide)), upM_n (Or.inr (by decide)), hmi.2.2.1.1]) dX3_addRule_187 ?_
          refine V.iload C dX3_addRule_190 6 rfl ?_
          refine V.iast C 6 rfl (by omega) (by omega) (by decide) dX3_addRule_192 (mput_8 (by omega)) ?_
          refine V.aload_n C dX3_addRule_193 1 rfl ?_
          refine V.getf C (v := .ref (ad 9)) 0 rfl rfl inX3 9 (by decide) fl_X3_29 (fun _ h => h) rfl dX3_addRule_194 ?_
          refine V.aload_n C dX3_addRule_197 1 rfl ?_
          refine V.getf C (v := vi (n : Int)) 0 rfl rfl inX3 3 (by decide) fl_X3_64 (fun _ h => h) (by show some _ = some _; rw [upM_n (Or.inl (by decide)), upM_n (Or.inl (by decide)), upM_n (Or.inl (by decide)), upM_n (Or.inl (by decide)), upM_n (Or.inl (by decide)), upM_n (Or.inr (by decide)), hmi.2.2.1.1]) dX3_addRule_198 ?_
          refine V.iload C dX3_addRule_201 7 rfl ?_
          refine V.iast C 7 rfl (by omega) (by omega) (by decide) dX3_addRule_203 (mput_9 (by omega)) ?_
          refine V.aload_n C dX3_addRule_204 1 rfl ?_
          refine V.dup C dX3_addRule_205 rfl ?_
          refine V.getf C (v := vi (n : Int)) 0 rfl rfl inX3 3 (by decide) fl_X3_64 (fun _ h => h) (by show some _ = some _; rw [upM_n (Or.inl (by decide)), upM_n (Or.inl (by decide)), upM_n (Or.inl (by decide)), upM_n (Or.inl (by decide)), upM_n (Or.inl (by decide)), upM_n (Or.inl (by decide)), upM_n (Or.inr (by decide)), hmi.2.2.1.1]) dX3_addRule_206 ?_
          refine V.iconst C dX3_addRule_209 ?_
          refine V.iadd C dX3_addRule_210 ?_
          refine V.putf C (v := vi ((n : Int) + 1)) (ty := .int) 0 rfl rfl inX3 tyX3 tyX3_ok nmX3 3 (by decide) fl_X3_64 (fun _ h => h) rfl (by decide +kernel) rfl rfl (Nat.le_of_ble_eq_true rfl) dX3_addRule_211 mput_0_3 ?_
          refine V.aload_n C dX3_addRule_214 1 rfl ?_
          refine V.getf C (v := vi ((n : Int) + 1)) 0 rfl rfl inX3 3 (by decide) fl_X3_64 (fun _ h => h) (by show some _ = some _; rw [upM_s]) dX3_addRule_215 ?_
          refine V.iconst C dX3_addRule_218 ?_
          refine V.isub C dX3_addRule_219 ?_
          rw [show (((n : Int) + 1) - 1) = (n : Int) from (by omega)]
          rw [hQ]
          exact V.iret C dX3_addRule_220 (by decide) (by decide) (by
            have hvv := e0.mp h108
            refine ⟨_, rfl, fun _ => rfl, _, rfl, by rw [show kAdd n kd nn sh fs ef va = 0 by rw [kAdd, if_pos h99, if_pos hvv, if_pos (by omega)]]; simp [upM], fun _ => ?_, fun e9 => absurd (show kAdd n kd nn sh fs ef va = 0 by rw [kAdd, if_pos h99, if_pos hvv, if_pos (by omega)]) e9⟩
            refine hmi.add hb (by omega) (PV.new hvv.1 hvv.2.1 hvv.2.2.1 hvv.2.2.2 ⟨gfs0, gfs1⟩) (fun k hk => ?_) ?_ ?_ (fun k k4 k9 x hx => ?_) ?_ ?_ ?_ ?_ ?_ ?_
            · rw [upM_off (by omega), upM_off (by omega), upM_off (by omega), upM_off (by omega), upM_off (by omega), upM_off (by omega), upM_off (by omega), upM_off (by omega)]
            · simp [upM]
            · simp [upM]
            · rw [upM_n (Or.inl (by omega)), upM_n (Or.inr hx), upM_n (Or.inr hx), upM_n (Or.inr hx), upM_n (Or.inr hx), upM_n (Or.inr hx), upM_n (Or.inr hx), upM_n (Or.inl (by omega))]
            · simp [upM]
            · simp [upM]
            · simp [upM]
            · simp [upM]
            · simp [upM]
            · simp [upM])
        · skip
          refine V.iconst C dX3_addRule_124 ?_
          refine V.goto C 129 dX3_addRule_125 (by decide) ?_
          refine V.putf C (v := vi 3) (ty := .int) 0 rfl rfl inX3 tyX3 tyX3_ok nmX3 0 (by decide) fl_X3_56 (fun _ h => h) rfl (by decide +kernel) rfl rfl (Nat.le_of_ble_eq_true rfl) dX3_addRule_129 mput_0_0 ?_
          refine V.aload_n C dX3_addRule_132 1 rfl ?_
          refine V.getf C (v := vi 3) 0 rfl rfl inX3 0 (by decide) fl_X3_56 (fun _ h => h) (by show some _ = some _; rw [upM_s]) dX3_addRule_133 ?_
          refine V.if_le C 141 dX3_addRule_136 (by decide) ⟨by decide, by decide⟩ (fun h136 => (by exact absurd h136 (by decide))) (fun h136 => ?_)
          refine V.iconst C dX3_addRule_139 ?_
          rw [hQ]
          exact V.iret C dX3_addRule_140 (by decide) (by decide) (⟨_, rfl, fun e9 => n30 (show kAdd n kd nn sh fs ef va = 3 by rw [kAdd, if_pos h99, if_pos (e0.mp h108), if_neg (by omega)]) e9, _, rfl, by rw [upM_s, show kAdd n kd nn sh fs ef va = 3 by rw [kAdd, if_pos h99, if_pos (e0.mp h108), if_neg (by omega)]], fun e9 => n30 (show kAdd n kd nn sh fs ef va = 3 by rw [kAdd, if_pos h99, if_pos (e0.mp h108), if_neg (by omega)]) e9, fun _ => hmi.t⟩)
      · skip
        refine V.iconst C dX3_addRule_111 ?_
        refine V.goto C 129 dX3_addRule_112 (by decide) ?_
        refine V.putf C (v := vi 2) (ty := .int) 0 rfl rfl inX3 tyX3 tyX3_ok nmX3 0 (by decide) fl_X3_56 (fun _ h => h) rfl (by decide +kernel) rfl rfl (Nat.le_of_ble_eq_true rfl) dX3_addRule_129 mput_0_0 ?_
        refine V.aload_n C dX3_addRule_132 1 rfl ?_
        refine V.getf C (v := vi 2) 0 rfl rfl inX3 0 (by decide) fl_X3_56 (fun _ h => h) (by show some _ = some _; rw [upM_s]) dX3_addRule_133 ?_
        refine V.if_le C 141 dX3_addRule_136 (by decide) ⟨by decide, by decide⟩ (fun h136 => (by exact absurd h136 (by decide))) (fun h136 => ?_)
        refine V.iconst C dX3_addRule_139 ?_
        rw [hQ]
        exact V.iret C dX3_addRule_140 (by decide) (by decide) (⟨_, rfl, fun e9 => n20 (show kAdd n kd nn sh fs ef va = 2 by rw [kAdd, if_pos h99, if_neg (fun z9 => by rw [e0.mpr z9] at h108; cases h108)]) e9, _, rfl, by rw [upM_s, show kAdd n kd nn sh fs ef va = 2 by rw [kAdd, if_pos h99, if_neg (fun z9 => by rw [e0.mpr z9] at h108; cases h108)]], fun e9 => n20 (show kAdd n kd nn sh fs ef va = 2 by rw [kAdd, if_pos h99, if_neg (fun z9 => by rw [e0.mpr z9] at h108; cases h108)]) e9, fun _ => hmi.t⟩)
    · skip
      refine V.iconst C dX3_addRule_102 ?_
      refine V.goto C 129 dX3_addRule_103 (by decide) ?_
      refine V.putf C (v := vi 1) (ty := .int) 0 rfl rfl inX3 tyX3 tyX3_ok nmX3 0 (by decide) fl_X3_56 (fun _ h => h) rfl (by decide +kernel) rfl rfl (Nat.le_of_ble_eq_true rfl) dX3_addRule_129 mput_0_0 ?_
      refine V.aload_n C dX3_addRule_132 1 rfl ?_
      refine V.getf C (v := vi 1) 0 rfl rfl inX3 0 (by decide) fl_X3_56 (fun _ h => h) (by show some _ = some _; rw [upM_s]) dX3_addRule_133 ?_
      refine V.if_le C 141 dX3_addRule_136 (by decide) ⟨by decide, by decide⟩ (fun h136 => (by exact absurd h136 (by decide))) (fun h136 => ?_)
      refine V.iconst C dX3_addRule_139 ?_
      rw [hQ]
      exact V.iret C dX3_addRule_140 (by decide) (by decide) (⟨_, rfl, fun e9 => n10 (show kAdd n kd nn sh fs ef va = 1 by rw [kAdd, if_neg (by rw [h99]; decide)]) e9, _, rfl, by rw [upM_s, show kAdd n kd nn sh fs ef va = 1 by rw [kAdd, if_neg (by rw [h99]; decide)]], fun e9 => n10 (show kAdd n kd nn sh fs ef va = 1 by rw [kAdd, if_neg (by rw [h99]; decide)]) e9, fun _ => hmi.t⟩)
  refine V.iload_n C dX3_addRule_0 1 rfl ?_
  refine V.iconst C dX3_addRule_1 ?_
  refine V.icmp_ne C 9 dX3_addRule_2 (by decide) ⟨by omega, by omega⟩ ⟨by decide, by decide⟩ (fun h2 => ?_) (fun h2 => ?_)
  · skip
    refine V.iconst C dX3_addRule_9 ?_
    refine V.istore C (lc2 := [(7, vi 1), (0, .ref (ad 0)), (1, vi kd), (2, vi nn), (3, vi sh), (4, vi fs), (5, vi ef), (6, vi va)]) dX3_addRule_10 (by decide) rfl ?_
    refine V.iload_n C dX3_addRule_12 2 rfl ?_
    refine V.if_ne C 21 dX3_addRule_13 (by decide) ⟨by omega, by omega⟩ (fun h13 => ?_) (fun h13 => ?_)
    · skip
      refine V.iload_n C dX3_addRule_21 2 rfl ?_
      refine V.iconst C dX3_addRule_22 ?_
      refine V.icmp_ne C 31 dX3_addRule_23 (by decide) ⟨by omega, by omega⟩ ⟨by decide, by decide⟩ (fun h23 => ?_) (fun h23 => (by exfalso; omega))
      refine V.bipush C dX3_addRule_31 (by decide) ?_
      refine V.istore C (lc2 := [(8, vi 22), (7, vi 1), (0, .ref (ad 0)), (1, vi kd), (2, vi nn), (3, vi sh), (4, vi fs), (5, vi ef), (6, vi va)]) dX3_addRule_33 (by decide) rfl ?_
      refine V.iload_n C dX3_addRule_35 3 rfl ?_
      refine V.iconst C dX3_addRule_36 ?_
      refine V.iconst C dX3_addRule_37 ?_
      refine V.callS C (As := [vi kd, vi 0, vi 3]) (st := []) (wr := []) kS_X3_60 (c_m_in l D cy sa hfl _ kd 0 3 ⟨by omega, by omega⟩ ⟨by decide, by decide⟩ ⟨by decide, by decide⟩) rfl rfl rfl (Nat.le_of_ble_eq_true rfl) ⟨by decide, by decide⟩ ⟨by decide, by decide⟩ dX3_addRule_38 (fun _ _ h => h.elim) (fun v4 w5 r6 => ?_)
      obtain ⟨rfl, hw5⟩ := r6
      rw [hw5]
      show V D 10 A p l e (rmL 8 0 0) s m args below meth c Q 0 0 (ml cy ad M) 41 [(8, vi 22), (7, vi 1), (0, .ref (ad 0)), (1, vi kd), (2, vi nn), (3, vi sh), (4, vi fs), (5, vi ef), (6, vi va)] [vi (bI (inB kd 0 3))]
      refine V.if_eqB C 90 dX3_addRule_41 (by decide) (fun h41 => ?_) (fun h41 => ?_)
      · skip
        have i41 := inB_f.mp h41
        refine V.iconst C dX3_addRule_90 ?_
        refine V.istore C (lc2 := [(9, vi 0), (8, vi 22), (7, vi 1), (0, .ref (ad 0)), (1, vi kd), (2, vi nn), (3, vi sh), (4, vi fs), (5, vi ef), (6, vi va)]) dX3_addRule_91 (by decide) rfl ?_
        exact V.sub [0, 3, 4, 5, 6, 7, 8, 9] rfl (join93 false (⟨fun z9 => (by cases z9), fun z9 => (by exfalso; omega)⟩))
      · skip
        have i41 := inB_iff.mp h41
        refine V.iload_n C dX3_addRule_44 4 rfl ?_
        refine V.iload C dX3_addRule_45 1 rfl ?_
        refine V.iload C dX3_addRule_47 0 rfl ?_
        refine V.callS C (As := [vi nn, vi 1, vi 22]) (st := []) (wr := []) kS_X3_60 (c_m_in l D cy sa hfl _ nn 1 22 ⟨by omega, by omega⟩ ⟨by decide, by decide⟩ ⟨by decide, by decide⟩) rfl rfl rfl (Nat.le_of_ble_eq_true rfl) ⟨by decide, by decide⟩ ⟨by decide, by decide⟩ dX3_addRule_49 (fun _ _ h => h.elim) (fun v7 w8 r9 => ?_)
        obtain ⟨rfl, hw8⟩ := r9
        rw [hw8]
        show V D 10 A p l e (rmL 8 0 0) s m args below meth c Q 0 0 (ml cy ad M) 52 [(8, vi 22), (7, vi 1), (0, .ref (ad 0)), (1, vi kd), (2, vi nn), (3, vi sh), (4, vi fs), (5, vi ef), (6, vi va)] [vi (bI (inB nn 1 22))]
        refine V.if_eqB C 90 dX3_addRule_52 (by decide) (fun h52 => ?_) (fun h52 => ?_)
        · skip
          have i52 := inB_f.mp h52
          refine V.iconst C dX3_addRule_90 ?_
          refine V.istore C (lc2 := [(9, vi 0), (8, vi 22), (7, vi 1), (0, .ref (ad 0)), (1, vi kd), (2, vi nn), (3, vi sh), (4, vi fs), (5, vi ef), (6, vi va)]) dX3_addRule_91 (by decide) rfl ?_
          exact V.sub [0, 3, 4, 5, 6, 7, 8, 9] rfl (join93 false (⟨fun z9 => (by cases z9), fun z9 => (by exfalso; omega)⟩))
        · skip
          have i52 := inB_iff.mp h52
          refine V.iload_n C dX3_addRule_55 5 rfl ?_
          refine V.iconst C dX3_addRule_56 ?_
          refine V.iconst C dX3_addRule_57 ?_
          refine V.callS C (As := [vi sh, vi 0, vi 2]) (st := []) (wr := []) kS_X3_60 (c_m_in l D cy sa hfl _ sh 0 2 ⟨by omega, by omega⟩ ⟨by decide, by decide⟩ ⟨by decide, by decide⟩) rfl rfl rfl (Nat.le_of_ble_eq_true rfl) ⟨by decide, by decide⟩ ⟨by decide, by decide⟩ dX3_addRule_58 (fun _ _ h => h.elim) (fun v10 w11 r12 => ?_)
          obtain ⟨rfl, hw11⟩ := r12
          rw [hw11]
          show V D 10 A p l e (rmL 8 0 0) s m args below meth c Q 0 0 (ml cy ad M) 61 [(8, vi 22), (7, vi 1), (0, .ref (ad 0)), (1, vi kd), (2, vi nn), (3, vi sh), (4, vi fs), (5, vi ef), (6, vi va)] [vi (bI (inB sh 0 2))]
          refine V.if_eqB C 90 dX3_addRule_61 (by decide) (fun h61 => ?_) (fun h61 => ?_)
          · skip
            have i61 := inB_f.mp h61
            refine V.iconst C dX3_addRule_90 ?_
            refine V.istore C (lc2 := [(9, vi 0), (8, vi 22), (7, vi 1), (0, .ref (ad 0)), (1, vi kd), (2, vi nn), (3, vi sh), (4, vi fs), (5, vi ef), (6, vi va)]) dX3_addRule_91 (by decide) rfl ?_
            exact V.sub [0, 3, 4, 5, 6, 7, 8, 9] rfl (join93 false (⟨fun z9 => (by cases z9), fun z9 => (by exfalso; omega)⟩))
          · skip
            have i61 := inB_iff.mp h61
            refine V.iload C dX3_addRule_64 7 rfl ?_
            refine V.iconst C dX3_addRule_66 ?_
            refine V.bipush C dX3_addRule_67 (by decide) ?_
            refine V.callS C (As := [vi ef, vi 1, vi 9]) (st := []) (wr := []) kS_X3_60 (c_m_in l D cy sa hfl _ ef 1 9 ⟨by omega, by omega⟩ ⟨by decide, by decide⟩ ⟨by decide, by decide⟩) rfl rfl rfl (Nat.le_of_ble_eq_true rfl) ⟨by decide, by decide⟩ ⟨by decide, by decide⟩ dX3_addRule_69 (fun _ _ h => h.elim) (fun v13 w14 r15 => ?_)
            obtain ⟨rfl, hw14⟩ := r15
            rw [hw14]
            show V D 10 A p l e (rmL 8 0 0) s m args below meth c Q 0 0 (ml cy ad M) 72 [(8, vi 22), (7, vi 1), (0, .ref (ad 0)), (1, vi kd), (2, vi nn), (3, vi sh), (4, vi fs), (5, vi ef), (6, vi va)] [vi (bI (inB ef 1 9))]
            refine V.if_eqB C 90 dX3_addRule_72 (by decide) (fun h72 => ?_) (fun h72 => ?_)
            · skip
              have i72 := inB_f.mp h72
              refine V.iconst C dX3_addRule_90 ?_
              refine V.istore C (lc2 := [(9, vi 0), (8, vi 22), (7, vi 1), (0, .ref (ad 0)), (1, vi kd), (2, vi nn), (3, vi sh), (4, vi fs), (5, vi ef), (6, vi va)]) dX3_addRule_91 (by decide) rfl ?_
              exact V.sub [0, 3, 4, 5, 6, 7, 8, 9] rfl (join93 false (⟨fun z9 => (by cases z9), fun z9 => (by exfalso; omega)⟩))
            · skip
              have i72 := inB_iff.mp h72
              refine V.iload C dX3_addRule_75 8 rfl ?_
              refine V.iconst C dX3_addRule_77 ?_
              refine V.bipush C dX3_addRule_78 (by decide) ?_
              refine V.callS C (As := [vi va, vi 0, vi 99]) (st := []) (wr := []) kS_X3_60 (c_m_in l D cy sa hfl _ va 0 99 ⟨by omega, by omega⟩ ⟨by decide, by decide⟩ ⟨by decide, by decide⟩) rfl rfl rfl (Nat.le_of_ble_eq_true rfl) ⟨by decide, by decide⟩ ⟨by decide, by decide⟩ dX3_addRule_80 (fun _ _ h => h.elim) (fun v16 w17 r18 => ?_)
              obtain ⟨rfl, hw17⟩ := r18
              rw [hw17]
              show V D 10 A p l e (rmL 8 0 0) s m args below meth c Q 0 0 (ml cy ad M) 83 [(8, vi 22), (7, vi 1), (0, .ref (ad 0)), (1, vi kd), (2, vi nn), (3, vi sh), (4, vi fs), (5, vi ef), (6, vi va)] [vi (bI (inB va 0 99))]
              refine V.if_eqB C 90 dX3_addRule_83 (by decide) (fun h83 => ?_) (fun h83 => ?_)
              · skip
                have i83 := inB_f.mp h83
                refine V.iconst C dX3_addRule_90 ?_
                refine V.istore C (lc2 := [(9, vi 0), (8, vi 22), (7, vi 1), (0, .ref (ad 0)), (1, vi kd), (2, vi nn), (3, vi sh), (4, vi fs), (5, vi ef), (6, vi va)]) dX3_addRule_91 (by decide) rfl ?_
                exact V.sub [0, 3, 4, 5, 6, 7, 8, 9] rfl (join93 false (⟨fun z9 => (by cases z9), fun z9 => (by exfalso; omega)⟩))
              · skip
                have i83 := inB_iff.mp h83
                refine V.iconst C dX3_addRule_86 ?_
                refine V.goto C 91 dX3_addRule_87 (by decide) ?_
                refine V.istore C (lc2 := [(9, vi 1), (8, vi 22), (7, vi 1), (0, .ref (ad 0)), (1, vi kd), (2, vi nn), (3, vi sh), (4, vi fs), (5, vi ef), (6, vi va)]) dX3_addRule_91 (by decide) rfl ?_
                exact V.sub [0, 3, 4, 5, 6, 7, 8, 9] rfl (join93 true (⟨fun _ => by omega, fun _ => rfl⟩))
    · skip
      refine V.bipush C dX3_addRule_16 (by decide) ?_
      refine V.goto C 33 dX3_addRule_18 (by decide) ?_
      refine V.istore C (lc2 := [(8, vi 60), (7, vi 1), (0, .ref (ad 0)), (1, vi kd), (2, vi nn), (3, vi sh), (4, vi fs), (5, vi ef), (6, vi va)]) dX3_addRule_33 (by decide) rfl ?_
      refine V.iload_n C dX3_addRule_35 3 rfl ?_
      refine V.iconst C dX3_addRule_36 ?_
      refine V.iconst C dX3_addRule_37 ?_
      refine V.callS C (As := [vi kd, vi 0, vi 3]) (st := []) (wr := []) kS_X3_60 (c_m_in l D cy sa hfl _ kd 0 3 ⟨by omega, by omega⟩ ⟨by decide, by decide⟩ ⟨by decide, by decide⟩) rfl rfl rfl (Nat.le_of_ble_eq_true rfl) ⟨by decide, by decide⟩ ⟨by decide, by decide⟩ dX3_addRule_38 (fun _ _ h => h.elim) (fun v19 w20 r21 => ?_)
      obtain ⟨rfl, hw20⟩ := r21
      rw [hw20]
      show V D 10 A p l e (rmL 8 0 0) s m args below meth c Q 0 0 (ml cy ad M) 41 [(8, vi 60), (7, vi 1), (0, .ref (ad 0)), (1, vi kd), (2, vi nn), (3, vi sh), (4, vi fs), (5, vi ef), (6, vi va)] [vi (bI (inB kd 0 3))]
      refine V.if_eqB C 90 dX3_addRule_41 (by decide) (fun h41 => ?_) (fun h41 => ?_)
      · skip
        have i41 := inB_f.mp h41
        refine V.iconst C dX3_addRule_90 ?_
        refine V.istore C (lc2 := [(9, vi 0), (8, vi 60), (7, vi 1), (0, .ref (ad 0)), (1, vi kd), (2, vi nn), (3, vi sh), (4, vi fs), (5, vi ef), (6, vi va)]) dX3_addRule_91 (by decide) rfl ?_
        exact V.sub [0, 3, 4, 5, 6, 7, 8, 9] rfl (join93 false (⟨fun z9 => (by cases z9), fun z9 => (by exfalso; omega)⟩))
      · skip
        have i41 := inB_iff.mp h41
        refine V.iload_n C dX3_addRule_44 4 rfl ?_
        refine V.iload C dX3_addRule_45 1 rfl ?_
        refine V.iload C dX3_addRule_47 0 rfl ?_
        refine V.callS C (As := [vi nn, vi 1, vi 60]) (st := []) (wr := []) kS_X3_60 (c_m_in l D cy sa hfl _ nn 1 60 ⟨by omega, by omega⟩ ⟨by decide, by decide⟩ ⟨by decide, by decide⟩) rfl rfl rfl (Nat.le_of_ble_eq_true rfl) ⟨by decide, by decide⟩ ⟨by decide, by decide⟩ dX3_addRule_49 (fun _ _ h => h.elim) (fun v22 w23 r24 => ?_)
        obtain ⟨rfl, hw23⟩ := r24
        rw [hw23]
        show V D 10 A p l e (rmL 8 0 0) s m args below meth c Q 0 0 (ml cy ad M) 52 [(8, vi 60), (7, vi 1), (0, .ref (ad 0)), (1, vi kd), (2, vi nn), (3, vi sh), (4, vi fs), (5, vi ef), (6, vi va)] [vi (bI (inB nn 1 60))]
        refine V.if_eqB C 90 dX3_addRule_52 (by decide) (fun h52 => ?_) (fun h52 => ?_)
        · skip
          have i52 := inB_f.mp h52
          refine V.iconst C dX3_addRule_90 ?_
          refine V.istore C (lc2 := [(9, vi 0), (8, vi 60), (7, vi 1), (0, .ref (ad 0)), (1, vi kd), (2, vi nn), (3, vi sh), (4, vi fs), (5, vi ef), (6, vi va)]) dX3_addRule_91 (by decide) rfl ?_
          exact V.sub [0, 3, 4, 5, 6, 7, 8, 9] rfl (join93 false (⟨fun z9 => (by cases z9), fun z9 => (by exfalso; omega)⟩))
        · skip
          have i52 := inB_iff.mp h52
          refine V.iload_n C dX3_addRule_55 5 rfl ?_
          refine V.iconst C dX3_addRule_56 ?_
          refine V.iconst C dX3_addRule_57 ?_
          refine V.callS C (As := [vi sh, vi 0, vi 2]) (st := []) (wr := []) kS_X3_60 (c_m_in l D cy sa hfl _ sh 0 2 ⟨by omega, by omega⟩ ⟨by decide, by decide⟩ ⟨by decide, by decide⟩) rfl rfl rfl (Nat.le_of_ble_eq_true rfl) ⟨by decide, by decide⟩ ⟨by decide, by decide⟩ dX3_addRule_58 (fun _ _ h => h.elim) (fun v25 w26 r27 => ?_)
          obtain ⟨rfl, hw26⟩ := r27
          rw [hw26]
          show V D 10 A p l e (rmL 8 0 0) s m args below meth c Q 0 0 (ml cy ad M) 61 [(8, vi 60), (7, vi 1), (0, .ref (ad 0)), (1, vi kd), (2, vi nn), (3, vi sh), (4, vi fs), (5, vi ef), (6, vi va)] [vi (bI (inB sh 0 2))]
          refine V.if_eqB C 90 dX3_addRule_61 (by decide) (fun h61 => ?_) (fun h61 => ?_)
          · skip
            have i61 := inB_f.mp h61
            refine V.iconst C dX3_addRule_90 ?_
            refine V.istore C (lc2 := [(9, vi 0), (8, vi 60), (7, vi 1), (0, .ref (ad 0)), (1, vi kd), (2, vi nn), (3, vi sh), (4, vi fs), (5, vi ef), (6, vi va)]) dX3_addRule_91 (by decide) rfl ?_
            exact V.sub [0, 3, 4, 5, 6, 7, 8, 9] rfl (join93 false (⟨fun z9 => (by cases z9), fun z9 => (by exfalso; omega)⟩))
          · skip
            have i61 := inB_iff.mp h61
            refine V.iload C dX3_addRule_64 7 rfl ?_
            refine V.iconst C dX3_addRule_66 ?_
            refine V.bipush C dX3_addRule_67 (by decide) ?_
            refine V.callS C (As := [vi ef, vi 1, vi 9]) (st := []) (wr := []) kS_X3_60 (c_m_in l D cy sa hfl _ ef 1 9 ⟨by omega, by omega⟩ ⟨by decide, by decide⟩ ⟨by decide, by decide⟩) rfl rfl rfl (Nat.le_of_ble_eq_true rfl) ⟨by decide, by decide⟩ ⟨by decide, by decide⟩ dX3_addRule_69 (fun _ _ h => h.elim) (fun v28 w29 r30 => ?_)
            obtain ⟨rfl, hw29⟩ := r30
            rw [hw29]
            show V D 10 A p l e (rmL 8 0 0) s m args below meth c Q 0 0 (ml cy ad M) 72 [(8, vi 60), (7, vi 1), (0, .ref (ad 0)), (1, vi kd), (2, vi nn), (3, vi sh), (4, vi fs), (5, vi ef), (6, vi va)] [vi (bI (inB ef 1 9))]
            refine V.if_eqB C 90 dX3_addRule_72 (by decide) (fun h72 => ?_) (fun h72 => ?_)
            · skip
              have i72 := inB_f.mp h72
              refine V.iconst C dX3_addRule_90 ?_
              refine V.istore C (lc2 := [(9, vi 0), (8, vi 60), (7, vi 1), (0, .ref (ad 0)), (1, vi kd), (2, vi nn), (3, vi sh), (4, vi fs), (5, vi ef), (6, vi va)]) dX3_addRule_91 (by decide) rfl ?_
              exact V.sub [0, 3, 4, 5, 6, 7, 8, 9] rfl (join93 false (⟨fun z9 => (by cases z9), fun z9 => (by exfalso; omega)⟩))
            · skip
              have i72 := inB_iff.mp h72
              refine V.iload C dX3_addRule_75 8 rfl ?_
              refine V.iconst C dX3_addRule_77 ?_
              refine V.bipush C dX3_addRule_78 (by decide) ?_
              refine V.callS C (As := [vi va, vi 0, vi 99]) (st := []) (wr := []) kS_X3_60 (c_m_in l D cy sa hfl _ va 0 99 ⟨by omega, by omega⟩ ⟨by decide, by decide⟩ ⟨by decide, by decide⟩) rfl rfl rfl (Nat.le_of_ble_eq_true rfl) ⟨by decide, by decide⟩ ⟨by decide, by decide⟩ dX3_addRule_80 (fun _ _ h => h.elim) (fun v31 w32 r33 => ?_)
              obtain ⟨rfl, hw32⟩ := r33
              rw [hw32]
              show V D 10 A p l e (rmL 8 0 0) s m args below meth c Q 0 0 (ml cy ad M) 83 [(8, vi 60), (7, vi 1), (0, .ref (ad 0)), (1, vi kd), (2, vi nn), (3, vi sh), (4, vi fs), (5, vi ef), (6, vi va)] [vi (bI (inB va 0 99))]
              refine V.if_eqB C 90 dX3_addRule_83 (by decide) (fun h83 => ?_) (fun h83 => ?_)
              · skip
                have i83 := inB_f.mp h83
                refine V.iconst C dX3_addRule_90 ?_
                refine V.istore C (lc2 := [(9, vi 0), (8, vi 60), (7, vi 1), (0, .ref (ad 0)), (1, vi kd), (2, vi nn), (3, vi sh), (4, vi fs), (5, vi ef), (6, vi va)]) dX3_addRule_91 (by decide) rfl ?_
                exact V.sub [0, 3, 4, 5, 6, 7, 8, 9] rfl (join93 false (⟨fun z9 => (by cases z9), fun z9 => (by exfalso; omega)⟩))
              · skip
                have i83 := inB_iff.mp h83
                refine V.iconst C dX3_addRule_86 ?_
                refine V.goto C 91 dX3_addRule_87 (by decide) ?_
                refine V.istore C (lc2 := [(9, vi 1), (8, vi 60), (7, vi 1), (0, .ref (ad 0)), (1, vi kd), (2, vi nn), (3, vi sh), (4, vi fs), (5, vi ef), (6, vi va)]) dX3_addRule_91 (by decide) rfl ?_
                exact V.sub [0, 3, 4, 5, 6, 7, 8, 9] rfl (join93 true (⟨fun _ => by omega, fun _ => rfl⟩))
  · skip
    refine V.iconst C dX3_addRule_5 ?_
    refine V.goto C 10 dX3_addRule_6 (by decide) ?_
    refine V.istore C (lc2 := [(7, vi 0), (0, .ref (ad 0)), (1, vi kd), (2, vi nn), (3, vi sh), (4, vi fs), (5, vi ef), (6, vi va)]) dX3_addRule_10 (by decide) rfl ?_
    refine V.iload_n C dX3_addRule_12 2 rfl ?_
    refine V.if_ne C 21 dX3_addRule_13 (by decide) ⟨by omega, by omega⟩ (fun h13 => ?_) (fun h13 => (by exfalso; omega))
    refine V.iload_n C dX3_addRule_21 2 rfl ?_
    refine V.iconst C dX3_addRule_22 ?_
    refine V.icmp_ne C 31 dX3_addRule_23 (by decide) ⟨by omega, by omega⟩ ⟨by decide, by decide⟩ (fun h23 => (by exact absurd h2 h23)) (fun h23 => ?_)
    refine V.bipush C dX3_addRule_26 (by decide) ?_
    refine V.goto C 33 dX3_addRule_28 (by decide) ?_
    refine V.istore C (lc2 := [(8, vi 29), (7, vi 0), (0, .ref (ad 0)), (1, vi kd), (2, vi nn), (3, vi sh), (4, vi fs), (5, vi ef), (6, vi va)]) dX3_addRule_33 (by decide) rfl ?_
    refine V.iload_n C dX3_addRule_35 3 rfl ?_
    refine V.iconst C dX3_addRule_36 ?_
    refine V.iconst C dX3_addRule_37 ?_
    refine V.callS C (As := [vi kd, vi 0, vi 3]) (st := []) (wr := []) kS_X3_60 (c_m_in l D cy sa hfl _ kd 0 3 ⟨by omega, by omega⟩ ⟨by decide, by decide⟩ ⟨by decide, by decide⟩) rfl rfl rfl (Nat.le_of_ble_eq_true rfl) ⟨by decide, by decide⟩ ⟨by decide, by decide⟩ dX3_addRule_38 (fun _ _ h => h.elim) (fun v34 w35 r36 => ?_)
    obtain ⟨rfl, hw35⟩ := r36
    rw [hw35]
    show V D 10 A p l e (rmL 8 0 0) s m args below meth c Q 0 0 (ml cy ad M) 41 [(8, vi 29), (7, vi 0), (0, .ref (ad 0)), (1, vi kd), (2, vi nn), (3, vi sh), (4, vi fs), (5, vi ef), (6, vi va)] [vi (bI (inB kd 0 3))]
    refine V.if_eqB C 90 dX3_addRule_41 (by decide) (fun h41 => ?_) (fun h41 => ?_)
    · skip
      have i41 := inB_f.mp h41
      refine V.iconst C dX3_addRule_90 ?_
      refine V.istore C (lc2 := [(9, vi 0), (8, vi 29), (7, vi 0), (0, .ref (ad 0)), (1, vi kd), (2, vi nn), (3, vi sh), (4, vi fs), (5, vi ef), (6, vi va)]) dX3_addRule_91 (by decide) rfl ?_
      exact V.sub [0, 3, 4, 5, 6, 7, 8, 9] rfl (join93 false (⟨fun z9 => (by cases z9), fun z9 => (by exfalso; omega)⟩))
    · skip
      have i41 := inB_iff.mp h41
      refine V.iload_n C dX3_addRule_44 4 rfl ?_
      refine V.iload C dX3_addRule_45 1 rfl ?_
      refine V.iload C dX3_addRule_47 0 rfl ?_
      refine V.callS C (As := [vi nn, vi 0, vi 29]) (st := []) (wr := []) kS_X3_60 (c_m_in l D cy sa hfl _ nn 0 29 ⟨by omega, by omega⟩ ⟨by decide, by decide⟩ ⟨by decide, by decide⟩) rfl rfl rfl (Nat.le_of_ble_eq_true rfl) ⟨by decide, by decide⟩ ⟨by decide, by decide⟩ dX3_addRule_49 (fun _ _ h => h.elim) (fun v37 w38 r39 => ?_)
      obtain ⟨rfl, hw38⟩ := r39
      rw [hw38]
      show V D 10 A p l e (rmL 8 0 0) s m args below meth c Q 0 0 (ml cy ad M) 52 [(8, vi 29), (7, vi 0), (0, .ref (ad 0)), (1, vi kd), (2, vi nn), (3, vi sh), (4, vi fs), (5, vi ef), (6, vi va)] [vi (bI (inB nn 0 29))]
      refine V.if_eqB C 90 dX3_addRule_52 (by decide) (fun h52 => ?_) (fun h52 => ?_)
      · skip
        have i52 := inB_f.mp h52
        refine V.iconst C dX3_addRule_90 ?_
        refine V.istore C (lc2 := [(9, vi 0), (8, vi 29), (7, vi 0), (0, .ref (ad 0)), (1, vi kd), (2, vi nn), (3, vi sh), (4, vi fs), (5, vi ef), (6, vi va)]) dX3_addRule_91 (by decide) rfl ?_
        exact V.sub [0, 3, 4, 5, 6, 7, 8, 9] rfl (join93 false (⟨fun z9 => (by cases z9), fun z9 => (by exfalso; omega)⟩))
      · skip
        have i52 := inB_iff.mp h52
        refine V.iload_n C dX3_addRule_55 5 rfl ?_
        refine V.iconst C dX3_addRule_56 ?_
        refine V.iconst C dX3_addRule_57 ?_
        refine V.callS C (As := [vi sh, vi 0, vi 2]) (st := []) (wr := []) kS_X3_60 (c_m_in l D cy sa hfl _ sh 0 2 ⟨by omega, by omega⟩ ⟨by decide, by decide⟩ ⟨by decide, by decide⟩) rfl rfl rfl (Nat.le_of_ble_eq_true rfl) ⟨by decide, by decide⟩ ⟨by decide, by decide⟩ dX3_addRule_58 (fun _ _ h => h.elim) (fun v40 w41 r42 => ?_)
        obtain ⟨rfl, hw41⟩ := r42
        rw [hw41]
        show V D 10 A p l e (rmL 8 0 0) s m args below meth c Q 0 0 (ml cy ad M) 61 [(8, vi 29), (7, vi 0), (0, .ref (ad 0)), (1, vi kd), (2, vi nn), (3, vi sh), (4, vi fs), (5, vi ef), (6, vi va)] [vi (bI (inB sh 0 2))]
        refine V.if_eqB C 90 dX3_addRule_61 (by decide) (fun h61 => ?_) (fun h61 => ?_)
        · skip
          have i61 := inB_f.mp h61
          refine V.iconst C dX3_addRule_90 ?_
          refine V.istore C (lc2 := [(9, vi 0), (8, vi 29), (7, vi 0), (0, .ref (ad 0)), (1, vi kd), (2, vi nn), (3, vi sh), (4, vi fs), (5, vi ef), (6, vi va)]) dX3_addRule_91 (by decide) rfl ?_
          exact V.sub [0, 3, 4, 5, 6, 7, 8, 9] rfl (join93 false (⟨fun z9 => (by cases z9), fun z9 => (by exfalso; omega)⟩))
        · skip
          have i61 := inB_iff.mp h61
          refine V.iload C dX3_addRule_64 7 rfl ?_
          refine V.iconst C dX3_addRule_66 ?_
          refine V.bipush C dX3_addRule_67 (by decide) ?_
          refine V.callS C (As := [vi ef, vi 1, vi 9]) (st := []) (wr := []) kS_X3_60 (c_m_in l D cy sa hfl _ ef 1 9 ⟨by omega, by omega⟩ ⟨by decide, by decide⟩ ⟨by decide, by decide⟩) rfl rfl rfl (Nat.le_of_ble_eq_true rfl) ⟨by decide, by decide⟩ ⟨by decide, by decide⟩ dX3_addRule_69 (fun _ _ h => h.elim) (fun v43 w44 r45 => ?_)
          obtain ⟨rfl, hw44⟩ := r45
          rw [hw44]
          show V D 10 A p l e (rmL 8 0 0) s m args below meth c Q 0 0 (ml cy ad M) 72 [(8, vi 29), (7, vi 0), (0, .ref (ad 0)), (1, vi kd), (2, vi nn), (3, vi sh), (4, vi fs), (5, vi ef), (6, vi va)] [vi (bI (inB ef 1 9))]
          refine V.if_eqB C 90 dX3_addRule_72 (by decide) (fun h72 => ?_) (fun h72 => ?_)
          · skip
            have i72 := inB_f.mp h72
            refine V.iconst C dX3_addRule_90 ?_
            refine V.istore C (lc2 := [(9, vi 0), (8, vi 29), (7, vi 0), (0, .ref (ad 0)), (1, vi kd), (2, vi nn), (3, vi sh), (4, vi fs), (5, vi ef), (6, vi va)]) dX3_addRule_91 (by decide) rfl ?_
            exact V.sub [0, 3, 4, 5, 6, 7, 8, 9] rfl (join93 false (⟨fun z9 => (by cases z9), fun z9 => (by exfalso; omega)⟩))
          · skip
            have i72 := inB_iff.mp h72
            refine V.iload C dX3_addRule_75 8 rfl ?_
            refine V.iconst C dX3_addRule_77 ?_
            refine V.bipush C dX3_addRule_78 (by decide) ?_
            refine V.callS C (As := [vi va, vi 0, vi 99]) (st := []) (wr := []) kS_X3_60 (c_m_in l D cy sa hfl _ va 0 99 ⟨by omega, by omega⟩ ⟨by decide, by decide⟩ ⟨by decide, by decide⟩) rfl rfl rfl (Nat.le_of_ble_eq_true rfl) ⟨by decide, by decide⟩ ⟨by decide, by decide⟩ dX3_addRule_80 (fun _ _ h => h.elim) (fun v46 w47 r48 => ?_)
            obtain ⟨rfl, hw47⟩ := r48
            rw [hw47]
            show V D 10 A p l e (rmL 8 0 0) s m args below meth c Q 0 0 (ml cy ad M) 83 [(8, vi 29), (7, vi 0), (0, .ref (ad 0)), (1, vi kd), (2, vi nn), (3, vi sh), (4, vi fs), (5, vi ef), (6, vi va)] [vi (bI (inB va 0 99))]
            refine V.if_eqB C 90 dX3_addRule_83 (by decide) (fun h83 => ?_) (fun h83 => ?_)
            · skip
              have i83 := inB_f.mp h83
              refine V.iconst C dX3_addRule_90 ?_
              refine V.istore C (lc2 := [(9, vi 0), (8, vi 29), (7, vi 0), (0, .ref (ad 0)), (1, vi kd), (2, vi nn), (3, vi sh), (4, vi fs), (5, vi ef), (6, vi va)]) dX3_addRule_91 (by decide) rfl ?_
              exact V.sub [0, 3, 4, 5, 6, 7, 8, 9] rfl (join93 false (⟨fun z9 => (by cases z9), fun z9 => (by exfalso; omega)⟩))
            · skip
              have i83 := inB_iff.mp h83
              refine V.iconst C dX3_addRule_86 ?_
              refine V.goto C 91 dX3_addRule_87 (by decide) ?_
              refine V.istore C (lc2 := [(9, vi 1), (8, vi 29), (7, vi 0), (0, .ref (ad 0)), (1, vi kd), (2, vi nn), (3, vi sh), (4, vi fs), (5, vi ef), (6, vi va)]) dX3_addRule_91 (by decide) rfl ?_
              exact V.sub [0, 3, 4, 5, 6, 7, 8, 9] rfl (join93 true (⟨fun _ => by omega, fun _ => rfl⟩))
