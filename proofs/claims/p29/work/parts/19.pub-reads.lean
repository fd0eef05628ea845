set_option maxHeartbeats 4000000 in
set_option maxRecDepth 100000 in
theorem c_isWorking (l : Launch) (D : va_G) (cy : Nat → ClassId) (sa : Nat → Addr) (hfl : l.stackTraces = false) (ad : Nat → Nat) (n : Nat) (M : Nat → Int → Int) (h : Int → Bool) (td : Int) (q : Nat → Nat → Int) (rq nd : Nat → Nat) (hci : CI h td n q rq nd M) (x : Int) (hx : inR x) : Ct l D cy sa yX2_isWorking cX2_isWorking 2 (some .boolean) 8 6 36 (cl cy (sa 100) ad n M) [.ref (ad 0), vi x] (fun v ws2 => kDay x = 0 ∧ v = some (vi (bI (wk h x))) ∧ ∃ M2, ws2 = cl cy (sa 100) ad n M2 ∧ CI h td n q rq nd M2) (fun E ws2 => ((E = xIO ∧ kDay x = 1)) ∧ ∃ M2, ws2 = cl cy (sa 100) ad n M2 ∧ CI h td n q rq nd M2) := by
  refine Ct.of (own := RX2) (lc := [(0, .ref (ad 0)), (1, vi x)]) (by decide +kernel) hfl (Nat.le_of_ble_eq_true rfl) rfl rfl ?_
  intro p e s m args below meth c A C hex hnm
  generalize hQ : vx_MQ below (Qo D (fun v ws2 => kDay x = 0 ∧ v = some (vi (bI (wk h x))) ∧ ∃ M2, ws2 = cl cy (sa 100) ad n M2 ∧ CI h td n q rq nd M2) A) (Xo D (fun E ws2 => ((E = xIO ∧ kDay x = 1)) ∧ ∃ M2, ws2 = cl cy (sa 100) ad n M2 ∧ CI h td n q rq nd M2) A) args s 6 36 A = Q
  replace hQ := hQ.symm
  obtain ⟨hc, ⟨htd, td0, td1⟩, hn, hR⟩ := id hci
  obtain ⟨hxl, hxr⟩ := hx
  refine V.iload_n C dX2_isWorking_0 1 rfl ?_
  refine V.callS C (As := [vi x]) (st := []) (wr := []) kS_X2_31 (c_checkDay l D cy sa hfl _ x ⟨by omega, by omega⟩) rfl rfl rfl (Nat.le_of_ble_eq_true rfl) ⟨by decide, by decide⟩ ⟨by decide, by decide⟩ dX2_isWorking_1 (fun E wsx hx => ?_) (fun v1 w2 r3 => ?_)
  · skip
    obtain ⟨rfl, rfl, hx1⟩ := hx
    rw [hQ]
    exact VX.out C hex (by decide) (by decide) ⟨⟨rfl, kDay_1 hx1⟩, M, rfl, hci⟩
  · skip
    obtain ⟨rfl, hw2, gx0, gx1⟩ := r3
    rw [hw2]
    show V D 2 A p l e (rmL 8 6 36) s m args below meth c Q 1 6 (cl cy (sa 100) ad n M) 4 [(0, .ref (ad 0)), (1, vi x)] []
    refine V.aload_n C dX2_isWorking_4 0 rfl ?_
    refine V.getf C (v := .ref (ad 1)) 0 cl_0 rfl inX2 0 (by decide) fl_X2_12 (fun _ h => h) rfl dX2_isWorking_5 ?_
    refine V.iload_n C dX2_isWorking_8 1 rfl ?_
    refine V.callV C (As := [vi x]) (st := []) (wr := []) kV_X2_53 (c_works l D cy sa hfl ad n M h x (by omega) (by omega) hc.1) rfl 1 cl_1 rfl rfl rfl (Nat.le_of_ble_eq_true rfl) ⟨by decide, by decide⟩ ⟨by decide, by decide⟩ dX2_isWorking_9 (fun _ _ h => h.elim) (fun v4 w5 r6 => ?_)
    obtain ⟨rfl, hw5⟩ := r6
    rw [hw5]
    show V D 2 A p l e (rmL 8 6 36) s m args below meth c Q 1 6 (cl cy (sa 100) ad n M) 12 [(0, .ref (ad 0)), (1, vi x)] [vi (bI (wk h x))]
    rw [hQ]
    exact V.zret C dX2_isWorking_12 (by decide) (by decide) (⟨kDay_0 gx0 gx1, rfl, M, rfl, hci⟩)
set_option maxHeartbeats 4000000 in
set_option maxRecDepth 100000 in
theorem c_today (l : Launch) (D : va_G) (cy : Nat → ClassId) (sa : Nat → Addr) (hfl : l.stackTraces = false) (ad : Nat → Nat) (n : Nat) (M : Nat → Int → Int) (h : Int → Bool) (td : Int) (q : Nat → Nat → Int) (rq nd : Nat → Nat) (hci : CI h td n q rq nd M) : Ct l D cy sa yX2_today cX2_today 1 (some .int) 8 6 36 (cl cy (sa 100) ad n M) [.ref (ad 0)] (fun v ws2 => v = some (vi td) ∧ ∃ M2, ws2 = cl cy (sa 100) ad n M2 ∧ CI h td n q rq nd M2) no_x := by
  refine Ct.of (own := RX2) (lc := [(0, .ref (ad 0))]) (by decide +kernel) hfl (Nat.le_of_ble_eq_true rfl) rfl rfl ?_
  intro p e s m args below meth c A C hex hnm
  generalize hQ : vx_MQ below (Qo D (fun v ws2 => v = some (vi td) ∧ ∃ M2, ws2 = cl cy (sa 100) ad n M2 ∧ CI h td n q rq nd M2) A) (Xo D no_x A) args s 6 36 A = Q
  replace hQ := hQ.symm
  obtain ⟨hc, ⟨htd, td0, td1⟩, hn, hR⟩ := id hci
  refine V.aload_n C dX2_today_0 0 rfl ?_
  refine V.getf C (v := vi td) 0 cl_0 rfl inX2 2 (by decide) fl_X2_23 (fun _ h => h) (by show some _ = some _; rw [htd]) dX2_today_1 ?_
  rw [hQ]
  exact V.iret C dX2_today_4 (by decide) (by decide) (⟨rfl, M, rfl, hci⟩)
set_option maxHeartbeats 4000000 in
set_option maxRecDepth 100000 in
theorem c_rules (l : Launch) (D : va_G) (cy : Nat → ClassId) (sa : Nat → Addr) (hfl : l.stackTraces = false) (ad : Nat → Nat) (n : Nat) (M : Nat → Int → Int) (h : Int → Bool) (td : Int) (q : Nat → Nat → Int) (rq nd : Nat → Nat) (hci : CI h td n q rq nd M) : Ct l D cy sa yX2_rules cX2_rules 1 (some .int) 8 6 36 (cl cy (sa 100) ad n M) [.ref (ad 0)] (fun v ws2 => v = some (vi (n : Int)) ∧ ∃ M2, ws2 = cl cy (sa 100) ad n M2 ∧ CI h td n q rq nd M2) no_x := by
  refine Ct.of (own := RX2) (lc := [(0, .ref (ad 0))]) (by decide +kernel) hfl (Nat.le_of_ble_eq_true rfl) rfl rfl ?_
  intro p e s m args below meth c A C hex hnm
  generalize hQ : vx_MQ below (Qo D (fun v ws2 => v = some (vi (n : Int)) ∧ ∃ M2, ws2 = cl cy (sa 100) ad n M2 ∧ CI h td n q rq nd M2) A) (Xo D no_x A) args s 6 36 A = Q
  replace hQ := hQ.symm
  obtain ⟨hc, ⟨htd, td0, td1⟩, hn, hR⟩ := id hci
  refine V.aload_n C dX2_rules_0 0 rfl ?_
  refine V.getf C (v := .ref (ad 5)) 0 cl_0 rfl inX2 1 (by decide) fl_X2_19 (fun _ h => h) rfl dX2_rules_1 ?_
  refine V.callV C (As := []) (st := []) (wr := []) kV_X2_39 (c_size l D cy sa hfl ad n M) rfl 5 cl_5 rfl rfl rfl (Nat.le_of_ble_eq_true rfl) ⟨by decide, by decide⟩ ⟨by decide, by decide⟩ dX2_rules_4 (fun _ _ h => h.elim) (fun v1 w2 r3 => ?_)
  obtain ⟨rfl, hw2⟩ := r3
  rw [hw2]
  show V D 1 A p l e (rmL 8 6 36) s m args below meth c Q 0 0 (cl cy (sa 100) ad n M) 7 [(0, .ref (ad 0))] [vi (n : Int)]
  rw [hQ]
  exact V.iret C dX2_rules_7 (by decide) (by decide) (⟨rfl, M, rfl, hci⟩)
set_option maxHeartbeats 4000000 in
set_option maxRecDepth 100000 in
theorem c_dueDay (l : Launch) (D : va_G) (cy : Nat → ClassId) (sa : Nat → Addr) (hfl : l.stackTraces = false) (ad : Nat → Nat) (n : Nat) (M : Nat → Int → Int) (h : Int → Bool) (td : Int) (q : Nat → Nat → Int) (rq nd : Nat → Nat) (hci : CI h td n q rq nd M) (x : Int) (hx : inR x) (z : Int) (hz : inR z) : Ct l D cy sa yX2_dueDay cX2_dueDay 4 (some .int) 8 6 36 (cl cy (sa 100) ad n M) [.ref (ad 0), vi x, vi z] (fun v ws2 => kRP n x z = 0 ∧ v = some (vi (dk (dueR h (q x.toNat)) 0 z)) ∧ ∃ M2, ws2 = cl cy (sa 100) ad n M2 ∧ CI h td n q rq nd M2) (fun E ws2 => ((E = xIO ∧ kRP n x z = 1)) ∧ ∃ M2, ws2 = cl cy (sa 100) ad n M2 ∧ CI h td n q rq nd M2) := by
  refine Ct.of (own := RX2) (lc := [(0, .ref (ad 0)), (1, vi x), (2, vi z)]) (by decide +kernel) hfl (Nat.le_of_ble_eq_true rfl) rfl rfl ?_
  intro p e s m args below meth c A C hex hnm
  generalize hQ : vx_MQ below (Qo D (fun v ws2 => kRP n x z = 0 ∧ v = some (vi (dk (dueR h (q x.toNat)) 0 z)) ∧ ∃ M2, ws2 = cl cy (sa 100) ad n M2 ∧ CI h td n q rq nd M2) A) (Xo D (fun E ws2 => ((E = xIO ∧ kRP n x z = 1)) ∧ ∃ M2, ws2 = cl cy (sa 100) ad n M2 ∧ CI h td n q rq nd M2) A) args s 6 36 A = Q
  replace hQ := hQ.symm
  obtain ⟨hc, ⟨htd, td0, td1⟩, hn, hR⟩ := id hci
  obtain ⟨hxl, hxr⟩ := hx
  obtain ⟨hzl, hzr⟩ := hz
  refine V.aload_n C dX2_dueDay_0 0 rfl ?_
  refine V.iload_n C dX2_dueDay_1 1 rfl ?_
  refine V.callV C (As := [vi x]) (st := []) (wr := []) kV_X2_86 (c_ruleAt l D cy sa hfl ad n M hn x ⟨by omega, by omega⟩) rfl 0 cl_0 rfl rfl rfl (Nat.le_of_ble_eq_true rfl) ⟨by decide, by decide⟩ ⟨by decide, by decide⟩ dX2_dueDay_2 (fun E wsx hx => ?_) (fun v1 w2 r3 => ?_)
  · skip
    obtain ⟨rfl, rfl, hx1⟩ := hx
    rw [hQ]
    exact VX.out C hex (by decide) (by decide) ⟨⟨rfl, kRP_1 (Or.inl hx1)⟩, M, rfl, hci⟩
  · skip
    obtain ⟨r, hr, hxx, rfl, hw2⟩ := r3
    subst hxx
    rw [hw2]
    obtain ⟨hkr, hpr, hdr, hqr, hq8r, hnr, hn8r⟩ := hR r hr
    show V D 4 A p l e (rmL 8 6 36) s m args below meth c Q 1 6 (cl cy (sa 100) ad n M) 5 [(0, .ref (ad 0)), (1, vi (r : Int)), (2, vi z)] [.ref (ad (8 + 2 * r))]
    refine V.astore_n C (lc2 := [(3, .ref (ad (8 + 2 * r))), (0, .ref (ad 0)), (1, vi (r : Int)), (2, vi z)]) dX2_dueDay_5 (by decide) rfl ?_
    refine V.iload_n C dX2_dueDay_6 3 rfl ?_
    refine V.callS C (As := [vi z]) (st := []) (wr := []) kS_X2_110 (c_checkPlace l D cy sa hfl _ z ⟨by omega, by omega⟩) rfl rfl rfl (Nat.le_of_ble_eq_true rfl) ⟨by decide, by decide⟩ ⟨by decide, by decide⟩ dX2_dueDay_7 (fun E wsx hx => ?_) (fun v4 w5 r6 => ?_)
    · skip
      obtain ⟨rfl, rfl, hx1⟩ := hx
      rw [hQ]
      exact VX.out C hex (by decide) (by decide) ⟨⟨rfl, kRP_1 (Or.inr hx1)⟩, M, rfl, hci⟩
    · skip
      obtain ⟨rfl, hw5, gz0⟩ := r6
      rw [hw5]
      show V D 4 A p l e (rmL 8 6 36) s m args below meth c Q 2 12 (cl cy (sa 100) ad n M) 10 [(3, .ref (ad (8 + 2 * r))), (0, .ref (ad 0)), (1, vi (r : Int)), (2, vi z)] []
      refine V.aload_n C dX2_dueDay_10 0 rfl ?_
      refine V.iload_n C dX2_dueDay_11 3 rfl ?_
      refine V.callV C (As := [vi z]) (st := []) (wr := []) kV_X2_113 (c_dayOfDuty l D cy sa hfl ad n M r hr _ hdr z ⟨by omega, by omega⟩) rfl (8 + 2 * r) (cl_r hr) rfl rfl rfl (Nat.le_of_ble_eq_true rfl) ⟨by decide, by decide⟩ ⟨by decide, by decide⟩ dX2_dueDay_12 (fun _ _ h => h.elim) (fun v7 w8 r9 => ?_)
      obtain ⟨rfl, hw8⟩ := r9
      rw [hw8]
      show V D 4 A p l e (rmL 8 6 36) s m args below meth c Q 2 12 (cl cy (sa 100) ad n M) 15 [(3, .ref (ad (8 + 2 * r))), (0, .ref (ad 0)), (1, vi (r : Int)), (2, vi z)] [vi (dk (dueR h (q r)) 0 z)]
      rw [hQ]
      exact V.iret C dX2_dueDay_15 (by decide) (by decide) (⟨kRP_0 hr gz0, rfl, M, rfl, hci⟩)
set_option maxHeartbeats 4000000 in
set_option maxRecDepth 100000 in
theorem c_duties (l : Launch) (D : va_G) (cy : Nat → ClassId) (sa : Nat → Addr) (hfl : l.stackTraces = false) (ad : Nat → Nat) (n : Nat) (M : Nat → Int → Int) (h : Int → Bool) (td : Int) (q : Nat → Nat → Int) (rq nd : Nat → Nat) (hci : CI h td n q rq nd M) (x : Int) (hx : inR x) : Ct l D cy sa yX2_duties cX2_duties 2 (some .int) 8 6 36 (cl cy (sa 100) ad n M) [.ref (ad 0), vi x] (fun v ws2 => kRule n x = 0 ∧ v = some (vi (ct (dueR h (q x.toNat)) 0 720)) ∧ ∃ M2, ws2 = cl cy (sa 100) ad n M2 ∧ CI h td n q rq nd M2) (fun E ws2 => ((E = xIO ∧ kRule n x = 1)) ∧ ∃ M2, ws2 = cl cy (sa 100) ad n M2 ∧ CI h td n q rq nd M2) := by
  refine Ct.of (own := RX2) (lc := [(0, .ref (ad 0)), (1, vi x)]) (by decide +kernel) hfl (Nat.le_of_ble_eq_true rfl) rfl rfl ?_
  intro p e s m args below meth c A C hex hnm
  generalize hQ : vx_MQ below (Qo D (fun v ws2 => kRule n x = 0 ∧ v = some (vi (ct (dueR h (q x.toNat)) 0 720)) ∧ ∃ M2, ws2 = cl cy (sa 100) ad n M2 ∧ CI h td n q rq nd M2) A) (Xo D (fun E ws2 => ((E = xIO ∧ kRule n x = 1)) ∧ ∃ M2, ws2 = cl cy (sa 100) ad n M2 ∧ CI h td n q rq nd M2) A) args s 6 36 A = Q
  replace hQ := hQ.symm
  obtain ⟨hc, ⟨htd, td0, td1⟩, hn, hR⟩ := id hci
  obtain ⟨hxl, hxr⟩ := hx
  refine V.aload_n C dX2_duties_0 0 rfl ?_
  refine V.iload_n C dX2_duties_1 1 rfl ?_
  refine V.callV C (As := [vi x]) (st := []) (wr := []) kV_X2_86 (c_ruleAt l D cy sa hfl ad n M hn x ⟨by omega, by omega⟩) rfl 0 cl_0 rfl rfl rfl (Nat.le_of_ble_eq_true rfl) ⟨by decide, by decide⟩ ⟨by decide, by decide⟩ dX2_duties_2 (fun E wsx hx => ?_) (fun v1 w2 r3 => ?_)
  · skip
    obtain ⟨rfl, rfl, hx1⟩ := hx
    rw [hQ]
    exact VX.out C hex (by decide) (by decide) ⟨⟨rfl, kRule_1 hx1⟩, M, rfl, hci⟩
  · skip
    obtain ⟨r, hr, hxx, rfl, hw2⟩ := r3
    subst hxx
    rw [hw2]
    obtain ⟨hkr, hpr, hdr, hqr, hq8r, hnr, hn8r⟩ := hR r hr
    show V D 2 A p l e (rmL 8 6 36) s m args below meth c Q 1 6 (cl cy (sa 100) ad n M) 5 [(0, .ref (ad 0)), (1, vi (r : Int))] [.ref (ad (8 + 2 * r))]
    refine V.sipush C dX2_duties_5 (by decide) ?_
    refine V.callV C (As := [vi 720]) (st := []) (wr := []) kV_X2_117 (c_countDueBefore l D cy sa hfl ad n M r hr _ hdr 720 (by decide) (by decide)) rfl (8 + 2 * r) (cl_r hr) rfl rfl rfl (Nat.le_of_ble_eq_true rfl) ⟨by decide, by decide⟩ ⟨by decide, by decide⟩ dX2_duties_8 (fun _ _ h => h.elim) (fun v4 w5 r6 => ?_)
    obtain ⟨rfl, hw5⟩ := r6
    rw [hw5]
    show V D 2 A p l e (rmL 8 6 36) s m args below meth c Q 1 6 (cl cy (sa 100) ad n M) 11 [(0, .ref (ad 0)), (1, vi (r : Int))] [vi (ct (dueR h (q r)) 0 720)]
    rw [hQ]
    exact V.iret C dX2_duties_11 (by decide) (by decide) (⟨kRule_0 hr, rfl, M, rfl, hci⟩)
set_option maxHeartbeats 4000000 in
set_option maxRecDepth 100000 in
theorem c_nextDue (l : Launch) (D : va_G) (cy : Nat → ClassId) (sa : Nat → Addr) (hfl : l.stackTraces = false) (ad : Nat → Nat) (n : Nat) (M : Nat → Int → Int) (h : Int → Bool) (td : Int) (q : Nat → Nat → Int) (rq nd : Nat → Nat) (hci : CI h td n q rq nd M) (x : Int) (hx : inR x) (z : Int) (hz : inR z) : Ct l D cy sa yX2_nextDue cX2_nextDue 4 (some .int) 8 6 36 (cl cy (sa 100) ad n M) [.ref (ad 0), vi x, vi z] (fun v ws2 => kRD n x z = 0 ∧ v = some (vi (fst (dueR h (q x.toNat)) z)) ∧ ∃ M2, ws2 = cl cy (sa 100) ad n M2 ∧ CI h td n q rq nd M2) (fun E ws2 => ((E = xIO ∧ kRD n x z = 1)) ∧ ∃ M2, ws2 = cl cy (sa 100) ad n M2 ∧ CI h td n q rq nd M2) := by
  refine Ct.of (own := RX2) (lc := [(0, .ref (ad 0)), (1, vi x), (2, vi z)]) (by decide +kernel) hfl (Nat.le_of_ble_eq_true rfl) rfl rfl ?_
  intro p e s m args below meth c A C hex hnm
  generalize hQ : vx_MQ below (Qo D (fun v ws2 => kRD n x z = 0 ∧ v = some (vi (fst (dueR h (q x.toNat)) z)) ∧ ∃ M2, ws2 = cl cy (sa 100) ad n M2 ∧ CI h td n q rq nd M2) A) (Xo D (fun E ws2 => ((E = xIO ∧ kRD n x z = 1)) ∧ ∃ M2, ws2 = cl cy (sa 100) ad n M2 ∧ CI h td n q rq nd M2) A) args s 6 36 A = Q
  replace hQ := hQ.symm
  obtain ⟨hc, ⟨htd, td0, td1⟩, hn, hR⟩ := id hci
  obtain ⟨hxl, hxr⟩ := hx
  obtain ⟨hzl, hzr⟩ := hz
  refine V.aload_n C dX2_nextDue_0 0 rfl ?_
  refine V.iload_n C dX2_nextDue_1 1 rfl ?_
  refine V.callV C (As := [vi x]) (st := []) (wr := []) kV_X2_86 (c_ruleAt l D cy sa hfl ad n M hn x ⟨by omega, by omega⟩) rfl 0 cl_0 rfl rfl rfl (Nat.le_of_ble_eq_true rfl) ⟨by decide, by decide⟩ ⟨by decide, by decide⟩ dX2_nextDue_2 (fun E wsx hx => ?_) (fun v1 w2 r3 => ?_)
  · skip
    obtain ⟨rfl, rfl, hx1⟩ := hx
    rw [hQ]
    exact VX.out C hex (by decide) (by decide) ⟨⟨rfl, kRD_1 hx1⟩, M, rfl, hci⟩
  · skip
    obtain ⟨r, hr, hxx, rfl, hw2⟩ := r3
    subst hxx
    rw [hw2]
    obtain ⟨hkr, hpr, hdr, hqr, hq8r, hnr, hn8r⟩ := hR r hr
    show V D 4 A p l e (rmL 8 6 36) s m args below meth c Q 1 6 (cl cy (sa 100) ad n M) 5 [(0, .ref (ad 0)), (1, vi (r : Int)), (2, vi z)] [.ref (ad (8 + 2 * r))]
    refine V.astore_n C (lc2 := [(3, .ref (ad (8 + 2 * r))), (0, .ref (ad 0)), (1, vi (r : Int)), (2, vi z)]) dX2_nextDue_5 (by decide) rfl ?_
    refine V.iload_n C dX2_nextDue_6 3 rfl ?_
    refine V.callS C (As := [vi z]) (st := []) (wr := []) kS_X2_31 (c_checkDay l D cy sa hfl _ z ⟨by omega, by omega⟩) rfl rfl rfl (Nat.le_of_ble_eq_true rfl) ⟨by decide, by decide⟩ ⟨by decide, by decide⟩ dX2_nextDue_7 (fun E wsx hx => ?_) (fun v4 w5 r6 => ?_)
    · skip
      obtain ⟨rfl, rfl, hx1⟩ := hx
      rw [hQ]
      exact VX.out C hex (by decide) (by decide) ⟨⟨rfl, kRD_1b hx1⟩, M, rfl, hci⟩
    · skip
      obtain ⟨rfl, hw5, gz0, gz1⟩ := r6
      rw [hw5]
      show V D 4 A p l e (rmL 8 6 36) s m args below meth c Q 2 12 (cl cy (sa 100) ad n M) 10 [(3, .ref (ad (8 + 2 * r))), (0, .ref (ad 0)), (1, vi (r : Int)), (2, vi z)] []
      refine V.aload_n C dX2_nextDue_10 0 rfl ?_
      refine V.iload_n C dX2_nextDue_11 3 rfl ?_
      refine V.callV C (As := [vi z]) (st := []) (wr := []) kV_X2_120 (c_firstDueFrom l D cy sa hfl ad n M r hr _ hdr z gz0 (by omega)) rfl (8 + 2 * r) (cl_r hr) rfl rfl rfl (Nat.le_of_ble_eq_true rfl) ⟨by decide, by decide⟩ ⟨by decide, by decide⟩ dX2_nextDue_12 (fun _ _ h => h.elim) (fun v7 w8 r9 => ?_)
      obtain ⟨rfl, hw8⟩ := r9
      rw [hw8]
      show V D 4 A p l e (rmL 8 6 36) s m args below meth c Q 2 12 (cl cy (sa 100) ad n M) 15 [(3, .ref (ad (8 + 2 * r))), (0, .ref (ad 0)), (1, vi (r : Int)), (2, vi z)] [vi (fst (dueR h (q r)) z)]
      rw [hQ]
      exact V.iret C dX2_nextDue_15 (by decide) (by decide) (⟨kRD_0 hr gz0 gz1, rfl, M, rfl, hci⟩)
set_option maxHeartbeats 4000000 in
set_option maxRecDepth 100000 in
theorem c_nextDueByWalking (l : Launch) (D : va_G) (cy : Nat → ClassId) (sa : Nat → Addr) (hfl : l.stackTraces = false) (ad : Nat → Nat) (n : Nat) (M : Nat → Int → Int) (h : Int → Bool) (td : Int) (q : Nat → Nat → Int) (rq nd : Nat → Nat) (hci : CI h td n q rq nd M) (x : Int) (hx : inR x) (z : Int) (hz : inR z) : Ct l D cy sa yX2_nextDueByWalking cX2_nextDueByWalking 4 (some .int) 8 6 36 (cl cy (sa 100) ad n M) [.ref (ad 0), vi x, vi z] (fun v ws2 => kRD n x z = 0 ∧ v = some (vi (fst (dueR h (q x.toNat)) z)) ∧ ∃ M2, ws2 = cl cy (sa 100) ad n M2 ∧ CI h td n q rq nd M2) (fun E ws2 => ((E = xIO ∧ kRD n x z = 1)) ∧ ∃ M2, ws2 = cl cy (sa 100) ad n M2 ∧ CI h td n q rq nd M2) := by
  refine Ct.of (own := RX2) (lc := [(0, .ref (ad 0)), (1, vi x), (2, vi z)]) (by decide +kernel) hfl (Nat.le_of_ble_eq_true rfl) rfl rfl ?_
  intro p e s m args below meth c A C hex hnm
  generalize hQ : vx_MQ below (Qo D (fun v ws2 => kRD n x z = 0 ∧ v = some (vi (fst (dueR h (q x.toNat)) z)) ∧ ∃ M2, ws2 = cl cy (sa 100) ad n M2 ∧ CI h td n q rq nd M2) A) (Xo D (fun E ws2 => ((E = xIO ∧ kRD n x z = 1)) ∧ ∃ M2, ws2 = cl cy (sa 100) ad n M2 ∧ CI h td n q rq nd M2) A) args s 6 36 A = Q
  replace hQ := hQ.symm
  obtain ⟨hc, ⟨htd, td0, td1⟩, hn, hR⟩ := id hci
  obtain ⟨hxl, hxr⟩ := hx
  obtain ⟨hzl, hzr⟩ := hz
  refine V.aload_n C dX2_nextDueByWalking_0 0 rfl ?_
  refine V.iload_n C dX2_nextDueByWalking_1 1 rfl ?_
  refine V.callV C (As := [vi x]) (st := []) (wr := []) kV_X2_86 (c_ruleAt l D cy sa hfl ad n M hn x ⟨by omega, by omega⟩) rfl 0 cl_0 rfl rfl rfl (Nat.le_of_ble_eq_true rfl) ⟨by decide, by decide⟩ ⟨by decide, by decide⟩ dX2_nextDueByWalking_2 (fun E wsx hx => ?_) (fun v1 w2 r3 => ?_)
  · skip
    obtain ⟨rfl, rfl, hx1⟩ := hx
    rw [hQ]
    exact VX.out C hex (by decide) (by decide) ⟨⟨rfl, kRD_1 hx1⟩, M, rfl, hci⟩
  · skip
    obtain ⟨r, hr, hxx, rfl, hw2⟩ := r3
    subst hxx
    rw [hw2]
    obtain ⟨hkr, hpr, hdr, hqr, hq8r, hnr, hn8r⟩ := hR r hr
    show V D 4 A p l e (rmL 8 6 36) s m args below meth c Q 1 6 (cl cy (sa 100) ad n M) 5 [(0, .ref (ad 0)), (1, vi (r : Int)), (2, vi z)] [.ref (ad (8 + 2 * r))]
    refine V.astore_n C (lc2 := [(3, .ref (ad (8 + 2 * r))), (0, .ref (ad 0)), (1, vi (r : Int)), (2, vi z)]) dX2_nextDueByWalking_5 (by decide) rfl ?_
    refine V.iload_n C dX2_nextDueByWalking_6 3 rfl ?_
    refine V.callS C (As := [vi z]) (st := []) (wr := []) kS_X2_31 (c_checkDay l D cy sa hfl _ z ⟨by omega, by omega⟩) rfl rfl rfl (Nat.le_of_ble_eq_true rfl) ⟨by decide, by decide⟩ ⟨by decide, by decide⟩ dX2_nextDueByWalking_7 (fun E wsx hx => ?_) (fun v4 w5 r6 => ?_)
    · skip
      obtain ⟨rfl, rfl, hx1⟩ := hx
      rw [hQ]
      exact VX.out C hex (by decide) (by decide) ⟨⟨rfl, kRD_1b hx1⟩, M, rfl, hci⟩
    · skip
      obtain ⟨rfl, hw5, gz0, gz1⟩ := r6
      rw [hw5]
      show V D 4 A p l e (rmL 8 6 36) s m args below meth c Q 2 12 (cl cy (sa 100) ad n M) 10 [(3, .ref (ad (8 + 2 * r))), (0, .ref (ad 0)), (1, vi (r : Int)), (2, vi z)] []
      refine V.aload_n C dX2_nextDueByWalking_10 0 rfl ?_
      refine V.iload_n C dX2_nextDueByWalking_11 3 rfl ?_
      refine V.aload_n C dX2_nextDueByWalking_12 1 rfl ?_
      refine V.getf C (v := .ref (ad 1)) 0 cl_0 rfl inX2 0 (by decide) fl_X2_12 (fun _ h => h) rfl dX2_nextDueByWalking_13 ?_
      refine V.callV C (As := [vi z, .ref (ad 1)]) (st := []) (wr := []) kV_X2_123 (c_walkToDue l D cy sa hfl ad n M r hr z gz0 gz1 (q r) hkr hpr h hc) rfl (8 + 2 * r) (cl_r hr) rfl rfl rfl (Nat.le_of_ble_eq_true rfl) ⟨by decide, by decide⟩ ⟨by decide, by decide⟩ dX2_nextDueByWalking_16 (fun _ _ h => h.elim) (fun v7 w8 r9 => ?_)
      obtain ⟨rfl, hw8⟩ := r9
      rw [hw8]
      show V D 4 A p l e (rmL 8 6 36) s m args below meth c Q 2 12 (cl cy (sa 100) ad n M) 19 [(3, .ref (ad (8 + 2 * r))), (0, .ref (ad 0)), (1, vi (r : Int)), (2, vi z)] [vi (fst (dueR h (q r)) z)]
      rw [hQ]
      exact V.iret C dX2_nextDueByWalking_19 (by decide) (by decide) (⟨kRD_0 hr gz0 gz1, rfl, M, rfl, hci⟩)
set_option maxHeartbeats 4000000 in
set_option maxRecDepth 100000 in
theorem c_open (l : Launch) (D : va_G) (cy : Nat → ClassId) (sa : Nat → Addr) (hfl : l.stackTraces = false) (ad : Nat → Nat) (n : Nat) (M : Nat → Int → Int) (h : Int → Bool) (td : Int) (q : Nat → Nat → Int) (rq nd : Nat → Nat) (hci : CI h td n q rq nd M) (x : Int) (hx : inR x) : Ct l D cy sa yX2_open cX2_open 2 (some .int) 8 6 36 (cl cy (sa 100) ad n M) [.ref (ad 0), vi x] (fun v ws2 => kRule n x = 0 ∧ v = some (vi (dk (dueR h (q x.toNat)) 0 (q x.toNat 8))) ∧ ∃ M2, ws2 = cl cy (sa 100) ad n M2 ∧ CI h td n q rq nd M2) (fun E ws2 => ((E = xIO ∧ kRule n x = 1)) ∧ ∃ M2, ws2 = cl cy (sa 100) ad n M2 ∧ CI h td n q rq nd M2) := by
  refine Ct.of (own := RX2) (lc := [(0, .ref (ad 0)), (1, vi x)]) (by decide +kernel) hfl (Nat.le_of_ble_eq_true rfl) rfl rfl ?_
  intro p e s m args below meth c A C hex hnm
  generalize hQ : vx_MQ below (Qo D (fun v ws2 => kRule n x = 0 ∧ v = some (vi (dk (dueR h (q x.toNat)) 0 (q x.toNat 8))) ∧ ∃ M2, ws2 = cl cy (sa 100) ad n M2 ∧ CI h td n q rq nd M2) A) (Xo D (fun E ws2 => ((E = xIO ∧ kRule n x = 1)) ∧ ∃ M2, ws2 = cl cy (sa 100) ad n M2 ∧ CI h td n q rq nd M2) A) args s 6 36 A = Q
  replace hQ := hQ.symm
  obtain ⟨hc, ⟨htd, td0, td1⟩, hn, hR⟩ := id hci
  obtain ⟨hxl, hxr⟩ := hx
  refine V.aload_n C dX2_open_0 0 rfl ?_
  refine V.iload_n C dX2_open_1 1 rfl ?_
  refine V.callV C (As := [vi x]) (st := []) (wr := []) kV_X2_86 (c_ruleAt l D cy sa hfl ad n M hn x ⟨by omega, by omega⟩) rfl 0 cl_0 rfl rfl rfl (Nat.le_of_ble_eq_true rfl) ⟨by decide, by decide⟩ ⟨by decide, by decide⟩ dX2_open_2 (fun E wsx hx => ?_) (fun v1 w2 r3 => ?_)
  · skip
    obtain ⟨rfl, rfl, hx1⟩ := hx
    rw [hQ]
    exact VX.out C hex (by decide) (by decide) ⟨⟨rfl, kRule_1 hx1⟩, M, rfl, hci⟩
  · skip
    obtain ⟨r, hr, hxx, rfl, hw2⟩ := r3
    subst hxx
    rw [hw2]
    obtain ⟨hkr, hpr, hdr, hqr, hq8r, hnr, hn8r⟩ := hR r hr
    show V D 2 A p l e (rmL 8 6 36) s m args below meth c Q 1 6 (cl cy (sa 100) ad n M) 5 [(0, .ref (ad 0)), (1, vi (r : Int))] [.ref (ad (8 + 2 * r))]
    refine V.callV C (As := []) (st := []) (wr := []) kV_X2_130 (c_openDay l D cy sa hfl ad n M r hr _ hdr (q r) hkr hpr) rfl (8 + 2 * r) (cl_r hr) rfl rfl rfl (Nat.le_of_ble_eq_true rfl) ⟨by decide, by decide⟩ ⟨by decide, by decide⟩ dX2_open_5 (fun _ _ h => h.elim) (fun v4 w5 r6 => ?_)
    obtain ⟨rfl, hw5⟩ := r6
    rw [hw5]
    show V D 2 A p l e (rmL 8 6 36) s m args below meth c Q 1 6 (cl cy (sa 100) ad n M) 8 [(0, .ref (ad 0)), (1, vi (r : Int))] [vi (dk (dueR h (q r)) 0 (q r 8))]
    rw [hQ]
    exact V.iret C dX2_open_8 (by decide) (by decide) (⟨kRule_0 hr, rfl, M, rfl, hci⟩)
set_option maxHeartbeats 4000000 in
set_option maxRecDepth 100000 in
theorem c_finished (l : Launch) (D : va_G) (cy : Nat → ClassId) (sa : Nat → Addr) (hfl : l.stackTraces = false) (ad : Nat → Nat) (n : Nat) (M : Nat → Int → Int) (h : Int → Bool) (td : Int) (q : Nat → Nat → Int) (rq nd : Nat → Nat) (hci : CI h td n q rq nd M) (x : Int) (hx : inR x) : Ct l D cy sa yX2_finished cX2_finished 2 (some .int) 8 6 36 (cl cy (sa 100) ad n M) [.ref (ad 0), vi x] (fun v ws2 => kRule n x = 0 ∧ v = some (vi (q x.toNat 8)) ∧ ∃ M2, ws2 = cl cy (sa 100) ad n M2 ∧ CI h td n q rq nd M2) (fun E ws2 => ((E = xIO ∧ kRule n x = 1)) ∧ ∃ M2, ws2 = cl cy (sa 100) ad n M2 ∧ CI h td n q rq nd M2) := by
  refine Ct.of (own := RX2) (lc := [(0, .ref (ad 0)), (1, vi x)]) (by decide +kernel) hfl (Nat.le_of_ble_eq_true rfl) rfl rfl ?_
  intro p e s m args below meth c A C hex hnm
  generalize hQ : vx_MQ below (Qo D (fun v ws2 => kRule n x = 0 ∧ v = some (vi (q x.toNat 8)) ∧ ∃ M2, ws2 = cl cy (sa 100) ad n M2 ∧ CI h td n q rq nd M2) A) (Xo D (fun E ws2 => ((E = xIO ∧ kRule n x = 1)) ∧ ∃ M2, ws2 = cl cy (sa 100) ad n M2 ∧ CI h td n q rq nd M2) A) args s 6 36 A = Q
  replace hQ := hQ.symm
  obtain ⟨hc, ⟨htd, td0, td1⟩, hn, hR⟩ := id hci
  obtain ⟨hxl, hxr⟩ := hx
  refine V.aload_n C dX2_finished_0 0 rfl ?_
  refine V.iload_n C dX2_finished_1 1 rfl ?_
  refine V.callV C (As := [vi x]) (st := []) (wr := []) kV_X2_86 (c_ruleAt l D cy sa hfl ad n M hn x ⟨by omega, by omega⟩) rfl 0 cl_0 rfl rfl rfl (Nat.le_of_ble_eq_true rfl) ⟨by decide, by decide⟩ ⟨by decide, by decide⟩ dX2_finished_2 (fun E wsx hx => ?_) (fun v1 w2 r3 => ?_)
  · skip
    obtain ⟨rfl, rfl, hx1⟩ := hx
    rw [hQ]
    exact VX.out C hex (by decide) (by decide) ⟨⟨rfl, kRule_1 hx1⟩, M, rfl, hci⟩
  · skip
    obtain ⟨r, hr, hxx, rfl, hw2⟩ := r3
    subst hxx
    rw [hw2]
    obtain ⟨hkr, hpr, hdr, hqr, hq8r, hnr, hn8r⟩ := hR r hr
    show V D 2 A p l e (rmL 8 6 36) s m args below meth c Q 1 6 (cl cy (sa 100) ad n M) 5 [(0, .ref (ad 0)), (1, vi (r : Int))] [.ref (ad (8 + 2 * r))]
    refine V.getf C (v := vi (q r 8)) (8 + 2 * r) (cl_r hr) rfl inX1 8 (by decide) fl_X2_147 (fun _ h => h) (by show some _ = some _; rw [hkr.2.2.2.2.2.2.1]) dX2_finished_5 ?_
    rw [hQ]
    exact V.iret C dX2_finished_8 (by decide) (by decide) (⟨kRule_0 hr, rfl, M, rfl, hci⟩)
def covd (q : Nat → Int) (z : Int) : Bool := !decide (q 9 = -1) && decide (q 9 ≤ z) && decide (z ≤ q 9 + q 4)
set_option maxHeartbeats 4000000 in
set_option maxRecDepth 100000 in
theorem c_isCovered (l : Launch) (D : va_G) (cy : Nat → ClassId) (sa : Nat → Addr) (hfl : l.stackTraces = false) (ad : Nat → Nat) (n : Nat) (M : Nat → Int → Int) (h : Int → Bool) (td : Int) (q : Nat → Nat → Int) (rq nd : Nat → Nat) (hci : CI h td n q rq nd M) (x : Int) (hx : inR x) (z : Int) (hz : inR z) : Ct l D cy sa yX2_isCovered cX2_isCovered 4 (some .boolean) 8 6 36 (cl cy (sa 100) ad n M) [.ref (ad 0), vi x, vi z] (fun v ws2 => kRD n x z = 0 ∧ v = some (vi (bI (covd (q x.toNat) z))) ∧ ∃ M2, ws2 = cl cy (sa 100) ad n M2 ∧ CI h td n q rq nd M2) (fun E ws2 => ((E = xIO ∧ kRD n x z = 1)) ∧ ∃ M2, ws2 = cl cy (sa 100) ad n M2 ∧ CI h td n q rq nd M2) := by
  refine Ct.of (own := RX2) (lc := [(0, .ref (ad 0)), (1, vi x), (2, vi z)]) (by decide +kernel) hfl (Nat.le_of_ble_eq_true rfl) rfl rfl ?_
  intro p e s m args below meth c A C hex hnm
  generalize hQ : vx_MQ below (Qo D (fun v ws2 => kRD n x z = 0 ∧ v = some (vi (bI (covd (q x.toNat) z))) ∧ ∃ M2, ws2 = cl cy (sa 100) ad n M2 ∧ CI h td n q rq nd M2) A) (Xo D (fun E ws2 => ((E = xIO ∧ kRD n x z = 1)) ∧ ∃ M2, ws2 = cl cy (sa 100) ad n M2 ∧ CI h td n q rq nd M2) A) args s 6 36 A = Q
  replace hQ := hQ.symm
  obtain ⟨hc, ⟨htd, td0, td1⟩, hn, hR⟩ := id hci
  obtain ⟨hxl, hxr⟩ := hx
  obtain ⟨hzl, hzr⟩ := hz
  refine V.aload_n C dX2_isCovered_0 0 rfl ?_
  refine V.iload_n C dX2_isCovered_1 1 rfl ?_
  refine V.callV C (As := [vi x]) (st := []) (wr := []) kV_X2_86 (c_ruleAt l D cy sa hfl ad n M hn x ⟨by omega, by omega⟩) rfl 0 cl_0 rfl rfl rfl (Nat.le_of_ble_eq_true rfl) ⟨by decide, by decide⟩ ⟨by decide, by decide⟩ dX2_isCovered_2 (fun E wsx hx => ?_) (fun v1 w2 r3 => ?_)
  · skip
    obtain ⟨rfl, rfl, hx1⟩ := hx
    rw [hQ]
    exact VX.out C hex (by decide) (by decide) ⟨⟨rfl, kRD_1 hx1⟩, M, rfl, hci⟩
  · skip
    obtain ⟨r, hr, hxx, rfl, hw2⟩ := r3
    subst hxx
    rw [hw2]
    obtain ⟨hkr, hpr, hdr, hqr, hq8r, hnr, hn8r⟩ := hR r hr
    show V D 4 A p l e (rmL 8 6 36) s m args below meth c Q 1 6 (cl cy (sa 100) ad n M) 5 [(0, .ref (ad 0)), (1, vi (r : Int)), (2, vi z)] [.ref (ad (8 + 2 * r))]
    refine V.astore_n C (lc2 := [(3, .ref (ad (8 + 2 * r))), (0, .ref (ad 0)), (1, vi (r : Int)), (2, vi z)]) dX2_isCovered_5 (by decide) rfl ?_
    refine V.iload_n C dX2_isCovered_6 3 rfl ?_
    refine V.callS C (As := [vi z]) (st := []) (wr := []) kS_X2_31 (c_checkDay l D cy sa hfl _ z ⟨by omega, by omega⟩) rfl rfl rfl (Nat.le_of_ble_eq_true rfl) ⟨by decide, by decide⟩ ⟨by decide, by decide⟩ dX2_isCovered_7 (fun E wsx hx => ?_) (fun v4 w5 r6 => ?_)
    · skip
      obtain ⟨rfl, rfl, hx1⟩ := hx
      rw [hQ]
      exact VX.out C hex (by decide) (by decide) ⟨⟨rfl, kRD_1b hx1⟩, M, rfl, hci⟩
    · skip
      obtain ⟨rfl, hw5, gz0, gz1⟩ := r6
      rw [hw5]
      show V D 4 A p l e (rmL 8 6 36) s m args below meth c Q 2 12 (cl cy (sa 100) ad n M) 10 [(3, .ref (ad (8 + 2 * r))), (0, .ref (ad 0)), (1, vi (r : Int)), (2, vi z)] []
      refine V.aload_n C dX2_isCovered_10 0 rfl ?_
      refine V.callV C (As := []) (st := []) (wr := []) kV_X2_165 (c_hasEvidence l D cy sa hfl ad n M r hr (q r) hkr hpr) rfl (8 + 2 * r) (cl_r hr) rfl rfl rfl (Nat.le_of_ble_eq_true rfl) ⟨by decide, by decide⟩ ⟨by decide, by decide⟩ dX2_isCovered_11 (fun _ _ h => h.elim) (fun v7 w8 r9 => ?_)
      obtain ⟨rfl, hw8⟩ := r9
      rw [hw8]
      show V D 4 A p l e (rmL 8 6 36) s m args below meth c Q 2 12 (cl cy (sa 100) ad n M) 14 [(3, .ref (ad (8 + 2 * r))), (0, .ref (ad 0)), (1, vi (r : Int)), (2, vi z)] [vi (bI (!decide (q r 9 = -1)))]
      have v9 := hpr.2.2.2.2.2.2.2.2.2
      have v4 := hpr.2.2.2.2.2.2.1
      refine V.if_eqB C 37 dX2_isCovered_14 (by decide) (fun h14 => ?_) (fun h14 => ?_)
      · skip
        refine V.iconst C dX2_isCovered_37 ?_
        show V D 4 A p l e (rmL 8 6 36) s m args below meth c Q 2 12 (cl cy (sa 100) ad n M) 38 [(3, .ref (ad (8 + 2 * r))), (0, .ref (ad 0)), (1, vi (r : Int)), (2, vi z)] [vi (bI false)]
        rw [hQ]
        exact V.zret C dX2_isCovered_38 (by decide) (by decide) (⟨kRD_0 hr gz0 gz1, rb (by show _ = covd (q r) z; rw [covd]; first | (rw [h14]; rfl) | (rw [h14, decide_eq_false (show ¬ q r 9 ≤ z by omega)]; rfl) | (rw [decide_eq_false (show ¬ z ≤ q r 9 + q r 4 by omega)]; simp) | (rw [h14, decide_eq_true (show q r 9 ≤ z by omega), decide_eq_true (show z ≤ q r 9 + q r 4 by omega)]; rfl)), M, rfl, hci⟩)
      · skip
        refine V.iload_n C dX2_isCovered_17 3 rfl ?_
        refine V.aload_n C dX2_isCovered_18 0 rfl ?_
        refine V.getf C (v := vi (q r 9)) (8 + 2 * r) (cl_r hr) rfl inX1 9 (by decide) fl_X2_150 (fun _ h => h) (by show some _ = some _; rw [hkr.2.2.2.2.2.2.2]) dX2_isCovered_19 ?_
        refine V.icmp_lt C 37 dX2_isCovered_22 (by decide) ⟨by omega, by omega⟩ ⟨by omega, by omega⟩ (fun h22 => ?_) (fun h22 => ?_)
        · skip
          refine V.iconst C dX2_isCovered_37 ?_
          show V D 4 A p l e (rmL 8 6 36) s m args below meth c Q 2 12 (cl cy (sa 100) ad n M) 38 [(3, .ref (ad (8 + 2 * r))), (0, .ref (ad 0)), (1, vi (r : Int)), (2, vi z)] [vi (bI false)]
          rw [hQ]
          exact V.zret C dX2_isCovered_38 (by decide) (by decide) (⟨kRD_0 hr gz0 gz1, rb (by show _ = covd (q r) z; rw [covd]; first | (rw [h14]; rfl) | (rw [h14, decide_eq_false (show ¬ q r 9 ≤ z by omega)]; rfl) | (rw [decide_eq_false (show ¬ z ≤ q r 9 + q r 4 by omega)]; simp) | (rw [h14, decide_eq_true (show q r 9 ≤ z by omega), decide_eq_true (show z ≤ q r 9 + q r 4 by omega)]; rfl)), M, rfl, hci⟩)
        · skip
          refine V.iload_n C dX2_isCovered_25 3 rfl ?_
          refine V.aload_n C dX2_isCovered_26 0 rfl ?_
          refine V.callV C (As := []) (st := [vi z]) (wr := []) kV_X2_169 (c_evidenceUntil l D cy sa hfl ad n M r hr (q r) hkr hpr) rfl (8 + 2 * r) (cl_r hr) rfl rfl rfl (Nat.le_of_ble_eq_true rfl) ⟨by decide, by decide⟩ ⟨by decide, by decide⟩ dX2_isCovered_27 (fun _ _ h => h.elim) (fun v10 w11 r12 => ?_)
          obtain ⟨rfl, hw11⟩ := r12
          rw [hw11]
          show V D 4 A p l e (rmL 8 6 36) s m args below meth c Q 2 12 (cl cy (sa 100) ad n M) 30 [(3, .ref (ad (8 + 2 * r))), (0, .ref (ad 0)), (1, vi (r : Int)), (2, vi z)] [vi (q r 9 + q r 4), vi z]
          refine V.icmp_gt C 37 dX2_isCovered_30 (by decide) ⟨by omega, by omega⟩ ⟨by omega, by omega⟩ (fun h30 => ?_) (fun h30 => ?_)
          · skip
            refine V.iconst C dX2_isCovered_37 ?_
            show V D 4 A p l e (rmL 8 6 36) s m args below meth c Q 2 12 (cl cy (sa 100) ad n M) 38 [(3, .ref (ad (8 + 2 * r))), (0, .ref (ad 0)), (1, vi (r : Int)), (2, vi z)] [vi (bI false)]
            rw [hQ]
            exact V.zret C dX2_isCovered_38 (by decide) (by decide) (⟨kRD_0 hr gz0 gz1, rb (by show _ = covd (q r) z; rw [covd]; first | (rw [h14]; rfl) | (rw [h14, decide_eq_false (show ¬ q r 9 ≤ z by omega)]; rfl) | (rw [decide_eq_false (show ¬ z ≤ q r 9 + q r 4 by omega)]; simp) | (rw [h14, decide_eq_true (show q r 9 ≤ z by omega), decide_eq_true (show z ≤ q r 9 + q r 4 by omega)]; rfl)), M, rfl, hci⟩)
          · skip
            refine V.iconst C dX2_isCovered_33 ?_
            refine V.goto C 38 dX2_isCovered_34 (by decide) ?_
            show V D 4 A p l e (rmL 8 6 36) s m args below meth c Q 2 12 (cl cy (sa 100) ad n M) 38 [(3, .ref (ad (8 + 2 * r))), (0, .ref (ad 0)), (1, vi (r : Int)), (2, vi z)] [vi (bI true)]
            rw [hQ]
            exact V.zret C dX2_isCovered_38 (by decide) (by decide) (⟨kRD_0 hr gz0 gz1, rb (by show _ = covd (q r) z; rw [covd]; first | (rw [h14]; rfl) | (rw [h14, decide_eq_false (show ¬ q r 9 ≤ z by omega)]; rfl) | (rw [decide_eq_false (show ¬ z ≤ q r 9 + q r 4 by omega)]; simp) | (rw [h14, decide_eq_true (show q r 9 ≤ z by omega), decide_eq_true (show z ≤ q r 9 + q r 4 by omega)]; rfl)), M, rfl, hci⟩)
def kLasts (n : Nat) (q : Nat → Nat → Int) (x : Int) : Int := if 0 ≤ x ∧ x < (n : Int) then (if q x.toNat 9 = -1 then 2 else 0) else 1
set_option maxHeartbeats 4000000 in
set_option maxRecDepth 100000 in
theorem c_lasts (l : Launch) (D : va_G) (cy : Nat → ClassId) (sa : Nat → Addr) (hfl : l.stackTraces = false) (ad : Nat → Nat) (n : Nat) (M : Nat → Int → Int) (h : Int → Bool) (td : Int) (q : Nat → Nat → Int) (rq nd : Nat → Nat) (hci : CI h td n q rq nd M) (x : Int) (hx : inR x) : Ct l D cy sa yX2_lasts cX2_lasts 3 (some .int) 8 6 36 (cl cy (sa 100) ad n M) [.ref (ad 0), vi x] (fun v ws2 => kLasts n q x = 0 ∧ v = some (vi (q x.toNat 9 + q x.toNat 4 - td)) ∧ ∃ M2, ws2 = cl cy (sa 100) ad n M2 ∧ CI h td n q rq nd M2) (fun E ws2 => ((E = xIO ∧ kLasts n q x = 1) ∨ (E = xNS ∧ kLasts n q x = 2)) ∧ ∃ M2, ws2 = cl cy (sa 100) ad n M2 ∧ CI h td n q rq nd M2) := by
  refine Ct.of (own := RX2) (lc := [(0, .ref (ad 0)), (1, vi x)]) (by decide +kernel) hfl (Nat.le_of_ble_eq_true rfl) rfl rfl ?_
  intro p e s m args below meth c A C hex hnm
  generalize hQ : vx_MQ below (Qo D (fun v ws2 => kLasts n q x = 0 ∧ v = some (vi (q x.toNat 9 + q x.toNat 4 - td)) ∧ ∃ M2, ws2 = cl cy (sa 100) ad n M2 ∧ CI h td n q rq nd M2) A) (Xo D (fun E ws2 => ((E = xIO ∧ kLasts n q x = 1) ∨ (E = xNS ∧ kLasts n q x = 2)) ∧ ∃ M2, ws2 = cl cy (sa 100) ad n M2 ∧ CI h td n q rq nd M2) A) args s 6 36 A = Q
  replace hQ := hQ.symm
  obtain ⟨hc, ⟨htd, td0, td1⟩, hn, hR⟩ := id hci
  obtain ⟨hxl, hxr⟩ := hx
  refine V.aload_n C dX2_lasts_0 0 rfl ?_
  refine V.iload_n C dX2_lasts_1 1 rfl ?_
  refine V.callV C (As := [vi x]) (st := []) (wr := []) kV_X2_86 (c_ruleAt l D cy sa hfl ad n M hn x ⟨by omega, by omega⟩) rfl 0 cl_0 rfl rfl rfl (Nat.le_of_ble_eq_true rfl) ⟨by decide, by decide⟩ ⟨by decide, by decide⟩ dX2_lasts_2 (fun E wsx hx => ?_) (fun v1 w2 r3 => ?_)
  · skip
    obtain ⟨rfl, rfl, hx1⟩ := hx
    rw [hQ]
    exact VX.out C hex (by decide) (by decide) ⟨Or.inl ⟨rfl, by rw [kLasts, if_neg (by omega)]⟩, M, rfl, hci⟩
  · skip
    obtain ⟨r, hr, hxx, rfl, hw2⟩ := r3
    subst hxx
    rw [hw2]
    obtain ⟨hkr, hpr, hdr, hqr, hq8r, hnr, hn8r⟩ := hR r hr
    show V D 3 A p l e (rmL 8 6 36) s m args below meth c Q 1 6 (cl cy (sa 100) ad n M) 5 [(0, .ref (ad 0)), (1, vi (r : Int))] [.ref (ad (8 + 2 * r))]
    refine V.astore_n C (lc2 := [(2, .ref (ad (8 + 2 * r))), (0, .ref (ad 0)), (1, vi (r : Int))]) dX2_lasts_5 (by decide) rfl ?_
    refine V.aload_n C dX2_lasts_6 0 rfl ?_
    refine V.callV C (As := []) (st := []) (wr := []) kV_X2_165 (c_hasEvidence l D cy sa hfl ad n M r hr (q r) hkr hpr) rfl (8 + 2 * r) (cl_r hr) rfl rfl rfl (Nat.le_of_ble_eq_true rfl) ⟨by decide, by decide⟩ ⟨by decide, by decide⟩ dX2_lasts_7 (fun _ _ h => h.elim) (fun v4 w5 r6 => ?_)
    obtain ⟨rfl, hw5⟩ := r6
    rw [hw5]
    show V D 3 A p l e (rmL 8 6 36) s m args below meth c Q 1 6 (cl cy (sa 100) ad n M) 10 [(2, .ref (ad (8 + 2 * r))), (0, .ref (ad 0)), (1, vi (r : Int))] [vi (bI (!decide (q r 9 = -1)))]
    have v9 := hpr.2.2.2.2.2.2.2.2.2
    have v4 := hpr.2.2.2.2.2.2.1
    refine V.if_neB C 23 dX2_lasts_10 (by decide) (fun h10 => ?_) (fun h10 => ?_)
    · skip
      refine V.aload_n C dX2_lasts_23 0 rfl ?_
      refine V.callV C (As := []) (st := []) (wr := []) kV_X2_169 (c_evidenceUntil l D cy sa hfl ad n M r hr (q r) hkr hpr) rfl (8 + 2 * r) (cl_r hr) rfl rfl rfl (Nat.le_of_ble_eq_true rfl) ⟨by decide, by decide⟩ ⟨by decide, by decide⟩ dX2_lasts_24 (fun _ _ h => h.elim) (fun v7 w8 r9 => ?_)
      obtain ⟨rfl, hw8⟩ := r9
      rw [hw8]
      show V D 3 A p l e (rmL 8 6 36) s m args below meth c Q 1 6 (cl cy (sa 100) ad n M) 27 [(2, .ref (ad (8 + 2 * r))), (0, .ref (ad 0)), (1, vi (r : Int))] [vi (q r 9 + q r 4)]
      refine V.aload_n C dX2_lasts_27 1 rfl ?_
      refine V.getf C (v := vi td) 0 cl_0 rfl inX2 2 (by decide) fl_X2_23 (fun _ h => h) (by show some _ = some _; rw [htd]) dX2_lasts_28 ?_
      refine V.isub C dX2_lasts_31 ?_
      rw [hQ]
      exact V.iret C dX2_lasts_32 (by decide) (by decide) (⟨by rw [kLasts, if_pos (by omega), Int.toNat_natCast, if_neg (by simpa using h10)], rfl, M, rfl, hci⟩)
    · skip
      rw [hQ]
      exact V.throw_NSEE C hex 10 rfl dX2_lasts_13 dX2_lasts_16 dX2_lasts_17 dX2_lasts_19 dX2_lasts_22 (by decide) (Nat.le_of_ble_eq_true rfl) (by decide) (by decide) ⟨by decide, by decide⟩ (⟨Or.inr ⟨rfl, by rw [kLasts, if_pos (by omega), Int.toNat_natCast, if_pos (by simpa using h10)]⟩, M, rfl, hci⟩)
def kPass (td x : Int) : Int := if 1 ≤ x ∧ x ≤ 100 then (if 720 ≤ td + x then 2 else 0) else 1
theorem CI.pass {h : Int → Bool} {td x : Int} {n : Nat} {q : Nat → Nat → Int} {rq nd : Nat → Nat} {M : Nat → Int → Int} (hc : CI h td n q rq nd M) (h0 : 0 ≤ x) (h1 : x < 720) : CI h x n q rq nd (upM M 0 2 x) := by
  obtain ⟨c1, c2, c3, c4⟩ := hc
  exact ⟨c1.same (upM_off (by decide)) (upM_off (by decide)) (upM_off (by decide)), ⟨upM_s _ _ _ _, h0, h1⟩, c3, fun i hi => (c4 i hi).same (upM_off (by omega)) (upM_off (by omega))⟩
set_option maxHeartbeats 4000000 in
set_option maxRecDepth 100000 in
theorem c_pass (l : Launch) (D : va_G) (cy : Nat → ClassId) (sa : Nat → Addr) (hfl : l.stackTraces = false) (ad : Nat → Nat) (n : Nat) (M : Nat → Int → Int) (h : Int → Bool) (td : Int) (q : Nat → Nat → Int) (rq nd : Nat → Nat) (hci : CI h td n q rq nd M) (x : Int) (hx : inR x) : Ct l D cy sa yX2_pass cX2_pass 2 (some .int) 8 6 36 (cl cy (sa 100) ad n M) [.ref (ad 0), vi x] (fun v ws2 => kPass td x = 0 ∧ v = some (vi (td + x)) ∧ ∃ M2, ws2 = cl cy (sa 100) ad n M2 ∧ CI h (td + x) n q rq nd M2) (fun E ws2 => ((E = xIA ∧ kPass td x = 1) ∨ (E = xIS ∧ kPass td x = 2)) ∧ ∃ M2, ws2 = cl cy (sa 100) ad n M2 ∧ CI h td n q rq nd M2) := by
  refine Ct.of (own := RX2) (lc := [(0, .ref (ad 0)), (1, vi x)]) (by decide +kernel) hfl (Nat.le_of_ble_eq_true rfl) rfl rfl ?_
  intro p e s m args below meth c A C hex hnm
  generalize hQ : vx_MQ below (Qo D (fun v ws2 => kPass td x = 0 ∧ v = some (vi (td + x)) ∧ ∃ M2, ws2 = cl cy (sa 100) ad n M2 ∧ CI h (td + x) n q rq nd M2) A) (Xo D (fun E ws2 => ((E = xIA ∧ kPass td x = 1) ∨ (E = xIS ∧ kPass td x = 2)) ∧ ∃ M2, ws2 = cl cy (sa 100) ad n M2 ∧ CI h td n q rq nd M2) A) args s 6 36 A = Q
  replace hQ := hQ.symm
  obtain ⟨hc, ⟨htd, td0, td1⟩, hn, hR⟩ := id hci
  obtain ⟨hxl, hxr⟩ := hx
  refine V.iload_n C dX2_pass_0 1 rfl ?_
  refine V.iconst C dX2_pass_1 ?_
  refine V.bipush C dX2_pass_2 (by decide) ?_
  refine V.callS C (As := [vi x, vi 1, vi 100]) (st := []) (wr := []) kS_X2_60 (c_checkRange l D cy sa hfl _ x 1 100 ⟨by omega, by omega⟩ ⟨by decide, by decide⟩ ⟨by decide, by decide⟩) rfl rfl rfl (Nat.le_of_ble_eq_true rfl) ⟨by decide, by decide⟩ ⟨by decide, by decide⟩ dX2_pass_4 (fun E wsx hx => ?_) (fun v1 w2 r3 => ?_)
  · skip
    obtain ⟨rfl, rfl, hx1⟩ := hx
    rw [hQ]
    exact VX.out C hex (by decide) (by decide) ⟨Or.inl ⟨rfl, by rw [kPass, if_neg (by omega)]⟩, M, rfl, hci⟩
  · skip
    obtain ⟨rfl, hw2, gx0, gx1⟩ := r3
    rw [hw2]
    show V D 2 A p l e (rmL 8 6 36) s m args below meth c Q 1 6 (cl cy (sa 100) ad n M) 7 [(0, .ref (ad 0)), (1, vi x)] []
    refine V.aload_n C dX2_pass_7 0 rfl ?_
    refine V.getf C (v := vi td) 0 cl_0 rfl inX2 2 (by decide) fl_X2_23 (fun _ h => h) (by show some _ = some _; rw [htd]) dX2_pass_8 ?_
    refine V.iload_n C dX2_pass_11 1 rfl ?_
    refine V.iadd C dX2_pass_12 ?_
    refine V.sipush C dX2_pass_13 (by decide) ?_
    refine V.icmp_lt C 29 dX2_pass_16 (by decide) ⟨by omega, by omega⟩ ⟨by decide, by decide⟩ (fun h16 => ?_) (fun h16 => ?_)
    · skip
      refine V.aload_n C dX2_pass_29 0 rfl ?_
      refine V.dup C dX2_pass_30 rfl ?_
      refine V.getf C (v := vi td) 0 cl_0 rfl inX2 2 (by decide) fl_X2_23 (fun _ h => h) (by show some _ = some _; rw [htd]) dX2_pass_31 ?_
      refine V.iload_n C dX2_pass_34 1 rfl ?_
      refine V.iadd C dX2_pass_35 ?_
      refine V.putf C (v := vi (td + x)) (ty := .int) 0 cl_0 rfl inX2 tyX2 tyX2_ok nmX2 2 (by decide) fl_X2_23 (fun _ h => h) rfl (by decide +kernel) rfl rfl (Nat.le_of_ble_eq_true rfl) dX2_pass_36 put_0 ?_
      refine V.aload_n C dX2_pass_39 0 rfl ?_
      refine V.getf C (v := vi (td + x)) 0 cl_0 rfl inX2 2 (by decide) fl_X2_23 (fun _ h => h) (by show some _ = some _; rw [upM_s]) dX2_pass_40 ?_
      rw [hQ]
      exact V.iret C dX2_pass_43 (by decide) (by decide) (⟨by rw [kPass, if_pos (by omega), if_neg (by omega)], rfl, _, rfl, hci.pass (by omega) (by omega)⟩)
    · skip
      rw [hQ]
      exact V.throw_ISE C hex 3 rfl dX2_pass_19 dX2_pass_22 dX2_pass_23 dX2_pass_25 dX2_pass_28 (by decide) (Nat.le_of_ble_eq_true rfl) (by decide) (by decide) ⟨by decide, by decide⟩ (⟨Or.inr ⟨rfl, by rw [kPass, if_pos (by omega), if_pos (by omega)]⟩, M, rfl, hci⟩)
