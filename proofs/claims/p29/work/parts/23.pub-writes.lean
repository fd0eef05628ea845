set_option maxHeartbeats 4000000 in
set_option maxRecDepth 100000 in
theorem c_holiday (l : Launch) (D : va_G) (cy : Nat → ClassId) (sa : Nat → Addr) (hfl : l.stackTraces = false) (ad : Nat → Nat) (n : Nat) (M : Nat → Int → Int) (h : Int → Bool) (td : Int) (q : Nat → Nat → Int) (rq nd : Nat → Nat) (hci : CI h td n q rq nd M) (x : Int) (hx : inR x) : Ct l D cy sa yX2_holiday cX2_holiday 4 (some .boolean) 8 6 36 (cl cy (sa 100) ad n M) [.ref (ad 0), vi x] (fun v ws2 => kDay x = 0 ∧ v = some (vi (bI (!h x))) ∧ ∃ M2, ws2 = cl cy (sa 100) ad n M2 ∧ CI (flip h x) td n q rq nd M2) (fun E ws2 => ((E = xIO ∧ kDay x = 1)) ∧ ∃ M2, ws2 = cl cy (sa 100) ad n M2 ∧ CI h td n q rq nd M2) := by
  refine Ct.of (own := RX2) (lc := [(0, .ref (ad 0)), (1, vi x)]) (by decide +kernel) hfl (Nat.le_of_ble_eq_true rfl) rfl rfl ?_
  intro p e s m args below meth c A C hex hnm
  generalize hQ : vx_MQ below (Qo D (fun v ws2 => kDay x = 0 ∧ v = some (vi (bI (!h x))) ∧ ∃ M2, ws2 = cl cy (sa 100) ad n M2 ∧ CI (flip h x) td n q rq nd M2) A) (Xo D (fun E ws2 => ((E = xIO ∧ kDay x = 1)) ∧ ∃ M2, ws2 = cl cy (sa 100) ad n M2 ∧ CI h td n q rq nd M2) A) args s 6 36 A = Q
  replace hQ := hQ.symm
  obtain ⟨hc, ⟨htd, td0, td1⟩, hn, hR⟩ := id hci
  obtain ⟨hxl, hxr⟩ := hx
  refine V.iload_n C dX2_holiday_0 1 rfl ?_
  refine V.callS C (As := [vi x]) (st := []) (wr := []) kS_X2_31 (c_checkDay l D cy sa hfl _ x ⟨by omega, by omega⟩) rfl rfl rfl (Nat.le_of_ble_eq_true rfl) ⟨by decide, by decide⟩ ⟨by decide, by decide⟩ dX2_holiday_1 (fun E wsx hx => ?_) (fun v1 w2 r3 => ?_)
  · skip
    obtain ⟨rfl, rfl, hx1⟩ := hx
    rw [hQ]
    exact VX.out C hex (by decide) (by decide) ⟨⟨rfl, kDay_1 hx1⟩, M, rfl, hci⟩
  · skip
    obtain ⟨rfl, hw2, gx0, gx1⟩ := r3
    rw [hw2]
    show V D 4 A p l e (rmL 8 6 36) s m args below meth c Q 1 6 (cl cy (sa 100) ad n M) 4 [(0, .ref (ad 0)), (1, vi x)] []
    refine V.aload_n C dX2_holiday_4 0 rfl ?_
    refine V.getf C (v := .ref (ad 1)) 0 cl_0 rfl inX2 0 (by decide) fl_X2_12 (fun _ h => h) rfl dX2_holiday_5 ?_
    refine V.iload_n C dX2_holiday_8 1 rfl ?_
    refine V.callV C (As := [vi x]) (st := []) (wr := []) kV_X2_35 (c_toggleHoliday l D cy sa hfl ad n M h x gx0 gx1 hc) rfl 1 cl_1 rfl rfl rfl (Nat.le_of_ble_eq_true rfl) ⟨by decide, by decide⟩ ⟨by decide, by decide⟩ dX2_holiday_9 (fun _ _ h => h.elim) (fun v4 w5 r6 => ?_)
    obtain ⟨rfl, M2, hw5, m1, m2⟩ := r6
    rw [hw5]
    show V D 4 A p l e (rmL 8 6 36) s m args below meth c Q 1 6 (cl cy (sa 100) ad n M2) 12 [(0, .ref (ad 0)), (1, vi x)] [vi (bI (!h x))]
    refine V.istore_n C (lc2 := [(2, vi (bI (!h x))), (0, .ref (ad 0)), (1, vi x)]) dX2_holiday_12 (by decide) rfl ?_
    refine V.iconst C dX2_holiday_13 ?_
    refine V.istore_n C (lc2 := [(3, vi 0), (2, vi (bI (!h x))), (0, .ref (ad 0)), (1, vi x)]) dX2_holiday_14 (by decide) rfl ?_
    have loop15 : ∀ (fz : Nat) (i : Int) (M1 : Nat → Int → Int), (0 ≤ i) → (i ≤ n) → (CalI (flip h x) M1) → (∀ k, k ≠ 2 → k ≠ 3 → k ≠ 4 → (k < 8 ∨ k % 2 = 0) → M1 k = M k) → (∀ j : Nat, j < n → (j : Int) < i → ∀ d, 0 ≤ d → d < 720 → M1 (8 + 2 * j + 1) d = bI (dueR (flip h x) (q j) d)) → (((n : Int) - i).toNat < fz) → V D 4 A p l e (rmL 8 6 36) s m args below meth c Q 1 6 (cl cy (sa 100) ad n M1) 15 [(3, vi i), (2, vi (bI (!h x))), (0, .ref (ad 0)), (1, vi x)] [] := by
      intro fz
      induction fz with
      | zero => intro i M1 e0 e1 e2 e3 e4 hf; exact absurd hf (Nat.not_lt_zero _)
      | succ fz ih15 =>
        intro i M1 e0 e1 e2 e3 e4 hf15
        refine V.iload_n C dX2_holiday_15 0 rfl ?_
        refine V.aload_n C dX2_holiday_16 2 rfl ?_
        refine V.getf C (v := .ref (ad 5)) 0 cl_0 rfl inX2 1 (by decide) fl_X2_19 (fun _ h => h) rfl dX2_holiday_17 ?_
        refine V.callV C (As := []) (st := [vi i]) (wr := []) kV_X2_39 (c_size l D cy sa hfl ad n M1) rfl 5 cl_5 rfl rfl rfl (Nat.le_of_ble_eq_true rfl) ⟨by decide, by decide⟩ ⟨by decide, by decide⟩ dX2_holiday_20 (fun _ _ h => h.elim) (fun v7 w8 r9 => ?_)
        obtain ⟨rfl, hw8⟩ := r9
        rw [hw8]
        show V D 4 A p l e (rmL 8 6 36) s m args below meth c Q 1 6 (cl cy (sa 100) ad n M1) 23 [(3, vi i), (2, vi (bI (!h x))), (0, .ref (ad 0)), (1, vi x)] [vi (n : Int), vi i]
        refine V.icmp_ge C 50 dX2_holiday_23 (by decide) ⟨by omega, by omega⟩ ⟨by omega, by omega⟩ (fun h23 => ?_) (fun h23 => ?_)
        · skip
          refine V.iload_n C dX2_holiday_50 1 rfl ?_
          rw [hQ]
          exact V.zret C dX2_holiday_51 (by decide) (by decide) (⟨kDay_0 gx0 gx1, rfl, M1, rfl, e2, by rw [e3 0 (by decide) (by decide) (by decide) (by decide)]; exact ⟨htd, td0, td1⟩, hn, fun j hj => by
              obtain ⟨b1, b2, b3, b4, b5, b6, b7⟩ := hR j hj
              have eM := e3 (8 + 2 * j) (by omega) (by omega) (by omega) (by omega)
              exact ⟨b1.same eM, b2, e4 j hj (by omega), by rw [eM]; exact b4, b5, by rw [eM]; exact b6, b7⟩⟩)
        · skip
          obtain ⟨r, rfl⟩ : ∃ r : Nat, i = (r : Int) := ⟨i.toNat, by omega⟩
          have hr : r < n := by omega
          obtain ⟨hkr, hpr, -⟩ := hR r hr
          refine V.aload_n C dX2_holiday_26 2 rfl ?_
          refine V.getf C (v := .ref (ad 5)) 0 cl_0 rfl inX2 1 (by decide) fl_X2_19 (fun _ h => h) rfl dX2_holiday_27 ?_
          refine V.iload_n C dX2_holiday_30 0 rfl ?_
          refine V.callV C (As := [vi (r : Int)]) (st := []) (wr := []) kV_X2_43 (c_get l D cy sa hfl ad n M1 r hr hn) rfl 5 cl_5 rfl rfl rfl (Nat.le_of_ble_eq_true rfl) ⟨by decide, by decide⟩ ⟨by decide, by decide⟩ dX2_holiday_31 (fun _ _ h => h.elim) (fun v10 w11 r12 => ?_)
          obtain ⟨rfl, hw11⟩ := r12
          rw [hw11]
          show V D 4 A p l e (rmL 8 6 36) s m args below meth c Q 1 6 (cl cy (sa 100) ad n M1) 34 [(3, vi (r : Int)), (2, vi (bI (!h x))), (0, .ref (ad 0)), (1, vi x)] [.ref (ad (8 + 2 * r))]
          refine V.cast C (8 + 2 * r) (cl_r hr) rfl cl_X2_47 dX2_holiday_34 ?_
          refine V.aload_n C dX2_holiday_37 2 rfl ?_
          refine V.getf C (v := .ref (ad 1)) 0 cl_0 rfl inX2 0 (by decide) fl_X2_12 (fun _ h => h) rfl dX2_holiday_38 ?_
          refine V.callV C (As := [.ref (ad 1)]) (st := []) (wr := []) kV_X2_49 (c_layDueDays l D cy sa hfl ad n M1 r hr (flip h x) (q r) (hkr.same (e3 _ (by omega) (by omega) (by omega) (by omega))) hpr e2) rfl (8 + 2 * r) (cl_r hr) rfl rfl rfl (Nat.le_of_ble_eq_true rfl) ⟨by decide, by decide⟩ ⟨by decide, by decide⟩ dX2_holiday_41 (fun _ _ h => h.elim) (fun v13 w14 r15 => ?_)
          obtain ⟨rfl, M3, hw14, m3, m4⟩ := r15
          rw [hw14]
          show V D 4 A p l e (rmL 8 6 36) s m args below meth c Q 1 6 (cl cy (sa 100) ad n M3) 44 [(3, vi (r : Int)), (2, vi (bI (!h x))), (0, .ref (ad 0)), (1, vi x)] []
          refine V.iinc C (lc2 := [(3, vi ((r : Int) + 1)), (2, vi (bI (!h x))), (0, .ref (ad 0)), (1, vi x)]) dX2_holiday_44 0 rfl (by decide) rfl ?_
          refine V.goto C 15 dX2_holiday_47 (by decide) ?_
          exact ih15 ((r : Int) + 1) M3 (by omega) (by omega) (e2.same (m3 2 (by omega)) (m3 3 (by omega)) (m3 4 (by omega))) (fun k k2 k3 k4 ke => (m3 k (by omega)).trans (e3 k k2 k3 k4 ke)) (fun j hjn hj d d0 d1 => by
                by_cases c : j = r
                · subst c; exact m4 d d0 d1
                · rw [m3 _ (by omega)]; exact e4 j hjn (by omega) d d0 d1) (by omega)
    exact loop15 _ 0 M2 (by omega) (by omega) m1 (fun k k2 k3 k4 _ => m2 k k2 k3 k4) (fun j _ hj => by omega) (Nat.lt_succ_self _)
def kShift (n : Nat) (x z : Int) : Int := if 0 ≤ x ∧ x < (n : Int) then (if 0 ≤ z ∧ z ≤ 2 then 0 else 2) else 1
def qsh (q : Nat → Nat → Int) (r : Nat) (z : Int) : Nat → Nat → Int := fun i j => if i = r ∧ j = 5 then z else q i j
theorem qsh_s {q : Nat → Nat → Int} {r j : Nat} {z : Int} (h : j ≠ 5) : qsh q r z r j = q r j := by simp [qsh, h]
theorem qsh_5 {q : Nat → Nat → Int} {r : Nat} {z : Int} : qsh q r z r 5 = z := by simp [qsh]
theorem qsh_n {q : Nat → Nat → Int} {r i : Nat} {z : Int} (h : i ≠ r) : qsh q r z i = q i := by funext j; simp [qsh, h]
theorem RF.sh {M : Nat → Int → Int} {q : Nat → Nat → Int} {r : Nat} {z : Int} (hk : RF M (8 + 2 * r) (q r)) : RF (upM M (8 + 2 * r) 5 z) (8 + 2 * r) (qsh q r z r) := by
  obtain ⟨b0, b1, b2, b3, b4, b5, b8, b9⟩ := hk
  have o : ∀ j : Int, j ≠ 5 → upM M (8 + 2 * r) 5 z (8 + 2 * r) j = M (8 + 2 * r) j := fun j hj => upM_n (Or.inr hj)
  refine ⟨?_, ?_, ?_, ?_, ?_, ?_, ?_, ?_⟩
  · rw [o 0 (by decide), qsh_s (by decide)]; exact b0
  · rw [o 1 (by decide), qsh_s (by decide)]; exact b1
  · rw [o 2 (by decide), qsh_s (by decide)]; exact b2
  · rw [o 3 (by decide), qsh_s (by decide)]; exact b3
  · rw [o 4 (by decide), qsh_s (by decide)]; exact b4
  · rw [upM_s, qsh_5]
  · rw [o 8 (by decide), qsh_s (by decide)]; exact b8
  · rw [o 9 (by decide), qsh_s (by decide)]; exact b9
theorem PV.sh {q : Nat → Nat → Int} {r : Nat} {z : Int} (hp : PV (q r)) (h0 : 0 ≤ z) (h1 : z ≤ 2) : PV (qsh q r z r) := by
  obtain ⟨p0, pe, pm, pn, p2, p3, p4, p5, p8, p9⟩ := hp
  refine ⟨?_, ?_, ?_, ?_, ?_, ?_, ?_, ?_, ?_, ?_⟩
  · rw [qsh_s (by decide)]; exact p0
  · rw [qsh_s (by decide), qsh_s (by decide)]; exact pe
  · rw [qsh_s (by decide), qsh_s (by decide)]; exact pm
  · rw [qsh_s (by decide), qsh_s (by decide)]; exact pn
  · rw [qsh_s (by decide)]; exact p2
  · rw [qsh_s (by decide)]; exact p3
  · rw [qsh_s (by decide)]; exact p4
  · rw [qsh_5]; exact ⟨h0, h1⟩
  · rw [qsh_s (by decide)]; exact p8
  · rw [qsh_s (by decide)]; exact p9
set_option maxHeartbeats 4000000 in
set_option maxRecDepth 100000 in
theorem c_setShift (l : Launch) (D : va_G) (cy : Nat → ClassId) (sa : Nat → Addr) (hfl : l.stackTraces = false) (ad : Nat → Nat) (n : Nat) (M : Nat → Int → Int) (h : Int → Bool) (td : Int) (q : Nat → Nat → Int) (rq nd : Nat → Nat) (hci : CI h td n q rq nd M) (x : Int) (hx : inR x) (z : Int) (hz : inR z) : Ct l D cy sa yX2_setShift cX2_setShift 5 (some .int) 8 6 36 (cl cy (sa 100) ad n M) [.ref (ad 0), vi x, vi z] (fun v ws2 => kShift n x z = 0 ∧ v = some (vi (q x.toNat 5)) ∧ ∃ M2, ws2 = cl cy (sa 100) ad n M2 ∧ CI h td n (qsh q x.toNat z) rq nd M2) (fun E ws2 => ((E = xIO ∧ kShift n x z = 1) ∨ (E = xIA ∧ kShift n x z = 2)) ∧ ∃ M2, ws2 = cl cy (sa 100) ad n M2 ∧ CI h td n q rq nd M2) := by
  refine Ct.of (own := RX2) (lc := [(0, .ref (ad 0)), (1, vi x), (2, vi z)]) (by decide +kernel) hfl (Nat.le_of_ble_eq_true rfl) rfl rfl ?_
  intro p e s m args below meth c A C hex hnm
  generalize hQ : vx_MQ below (Qo D (fun v ws2 => kShift n x z = 0 ∧ v = some (vi (q x.toNat 5)) ∧ ∃ M2, ws2 = cl cy (sa 100) ad n M2 ∧ CI h td n (qsh q x.toNat z) rq nd M2) A) (Xo D (fun E ws2 => ((E = xIO ∧ kShift n x z = 1) ∨ (E = xIA ∧ kShift n x z = 2)) ∧ ∃ M2, ws2 = cl cy (sa 100) ad n M2 ∧ CI h td n q rq nd M2) A) args s 6 36 A = Q
  replace hQ := hQ.symm
  obtain ⟨hc, ⟨htd, td0, td1⟩, hn, hR⟩ := id hci
  obtain ⟨hxl, hxr⟩ := hx
  obtain ⟨hzl, hzr⟩ := hz
  refine V.aload_n C dX2_setShift_0 0 rfl ?_
  refine V.iload_n C dX2_setShift_1 1 rfl ?_
  refine V.callV C (As := [vi x]) (st := []) (wr := []) kV_X2_86 (c_ruleAt l D cy sa hfl ad n M hn x ⟨by omega, by omega⟩) rfl 0 cl_0 rfl rfl rfl (Nat.le_of_ble_eq_true rfl) ⟨by decide, by decide⟩ ⟨by decide, by decide⟩ dX2_setShift_2 (fun E wsx hx => ?_) (fun v1 w2 r3 => ?_)
  · skip
    obtain ⟨rfl, rfl, hx1⟩ := hx
    rw [hQ]
    exact VX.out C hex (by decide) (by decide) ⟨Or.inl ⟨rfl, by rw [kShift, if_neg (by omega)]⟩, M, rfl, hci⟩
  · skip
    obtain ⟨r, hr, hxx, rfl, hw2⟩ := r3
    subst hxx
    rw [hw2]
    obtain ⟨hkr, hpr, hdr, hqr, hq8r, hnr, hn8r⟩ := hR r hr
    show V D 5 A p l e (rmL 8 6 36) s m args below meth c Q 1 6 (cl cy (sa 100) ad n M) 5 [(0, .ref (ad 0)), (1, vi (r : Int)), (2, vi z)] [.ref (ad (8 + 2 * r))]
    refine V.astore_n C (lc2 := [(3, .ref (ad (8 + 2 * r))), (0, .ref (ad 0)), (1, vi (r : Int)), (2, vi z)]) dX2_setShift_5 (by decide) rfl ?_
    refine V.iload_n C dX2_setShift_6 3 rfl ?_
    refine V.callS C (As := [vi z]) (st := []) (wr := []) kS_X2_74 (c_checkShift l D cy sa hfl _ z ⟨by omega, by omega⟩) rfl rfl rfl (Nat.le_of_ble_eq_true rfl) ⟨by decide, by decide⟩ ⟨by decide, by decide⟩ dX2_setShift_7 (fun E wsx hx => ?_) (fun v4 w5 r6 => ?_)
    · skip
      obtain ⟨rfl, rfl, hx1⟩ := hx
      rw [hQ]
      exact VX.out C hex (by decide) (by decide) ⟨Or.inr ⟨rfl, by rw [kShift, if_pos (by omega), if_neg (by omega)]⟩, M, rfl, hci⟩
    · skip
      obtain ⟨rfl, hw5, gz0, gz1⟩ := r6
      rw [hw5]
      show V D 5 A p l e (rmL 8 6 36) s m args below meth c Q 2 12 (cl cy (sa 100) ad n M) 10 [(3, .ref (ad (8 + 2 * r))), (0, .ref (ad 0)), (1, vi (r : Int)), (2, vi z)] []
      refine V.aload_n C dX2_setShift_10 0 rfl ?_
      refine V.getf C (v := vi (q r 5)) (8 + 2 * r) (cl_r hr) rfl inX1 5 (by decide) fl_X2_90 (fun _ h => h) (by show some _ = some _; rw [hkr.2.2.2.2.2.1]) dX2_setShift_11 ?_
      refine V.istore C (lc2 := [(4, vi (q r 5)), (3, .ref (ad (8 + 2 * r))), (0, .ref (ad 0)), (1, vi (r : Int)), (2, vi z)]) dX2_setShift_14 (by decide) rfl ?_
      refine V.aload_n C dX2_setShift_16 1 rfl ?_
      refine V.iload_n C dX2_setShift_17 4 rfl ?_
      refine V.putf C (v := vi z) (ty := .int) (8 + 2 * r) (cl_r hr) rfl inX1 tyX1 tyX1_ok nmX1 5 (by decide) fl_X2_90 (fun _ h => h) rfl (by decide +kernel) rfl rfl (Nat.le_of_ble_eq_true rfl) dX2_setShift_18 (put_r (q := r) (by decide)) ?_
      show V D 5 A p l e (rmL 8 6 36) s m args below meth c Q 2 12 (cl cy (sa 100) ad n (upM M (8 + 2 * r) 5 z)) 21 [(4, vi (q r 5)), (3, .ref (ad (8 + 2 * r))), (0, .ref (ad 0)), (1, vi (r : Int)), (2, vi z)] []
      obtain ⟨M1, hM1⟩ : ∃ y, y = (upM M (8 + 2 * r) 5 z) := ⟨_, rfl⟩
      rw [← hM1]
      refine V.aload_n C dX2_setShift_21 1 rfl ?_
      refine V.aload_n C dX2_setShift_22 2 rfl ?_
      refine V.getf C (v := .ref (ad 1)) 0 cl_0 rfl inX2 0 (by decide) fl_X2_12 (fun _ h => h) rfl dX2_setShift_23 ?_
      refine V.callV C (As := [.ref (ad 1)]) (st := []) (wr := []) kV_X2_49 (c_layDueDays l D cy sa hfl ad n M1 r hr h (qsh q r z r) (by rw [hM1]; exact hkr.sh) (hpr.sh gz0 gz1) (by rw [hM1]; exact hc.same (upM_off (by omega)) (upM_off (by omega)) (upM_off (by omega)))) rfl (8 + 2 * r) (cl_r hr) rfl rfl rfl (Nat.le_of_ble_eq_true rfl) ⟨by decide, by decide⟩ ⟨by decide, by decide⟩ dX2_setShift_26 (fun _ _ h => h.elim) (fun v7 w8 r9 => ?_)
      obtain ⟨rfl, M2, hw8, m1, m2⟩ := r9
      rw [hw8]
      show V D 5 A p l e (rmL 8 6 36) s m args below meth c Q 2 12 (cl cy (sa 100) ad n M2) 29 [(4, vi (q r 5)), (3, .ref (ad (8 + 2 * r))), (0, .ref (ad 0)), (1, vi (r : Int)), (2, vi z)] []
      refine V.iload C dX2_setShift_29 0 rfl ?_
      rw [hQ]
      exact V.iret C dX2_setShift_31 (by decide) (by decide) (⟨by rw [kShift, if_pos (by omega), if_pos (by omega)], rfl, M2, rfl, by
          have o : ∀ k, k ≠ 8 + 2 * r → k ≠ 8 + 2 * r + 1 → M2 k = M k := fun k k1 k2 => (m1 k k2).trans (by rw [hM1]; exact upM_off k1)
          refine ⟨hc.same (o 2 (by omega) (by omega)) (o 3 (by omega) (by omega)) (o 4 (by omega) (by omega)), by rw [o 0 (by omega) (by omega)]; exact ⟨htd, td0, td1⟩, hn, fun j hj => ?_⟩
          by_cases c : j = r
          · subst c
            have e6 : M2 (8 + 2 * j) = M1 (8 + 2 * j) := m1 _ (by omega)
            exact ⟨by rw [hM1] at e6; exact hkr.sh.same e6, hpr.sh gz0 gz1, m2, by rw [e6, hM1, upM_n (Or.inr (by decide))]; exact hqr, hq8r, by rw [e6, hM1, upM_n (Or.inr (by decide))]; exact hnr, hn8r⟩
          · rw [Int.toNat_natCast, qsh_n c]
            exact (hR j hj).same (o _ (by omega) (by omega)) (o _ (by omega) (by omega))⟩)
def ndW (nd : Nat → Nat) (x nn : Nat) : Nat → Nat := fun i => if i = x ∨ (nd i).testBit x = true then nd i ||| nn else nd i
theorem or8 {a b : Nat} (ha : a < 256) (hb : b < 256) : a ||| b < 256 := Nat.or_lt_two_pow (n := 8) ha hb
theorem spn {j r : Nat} {a b : Nat} (c : ¬ j = r) : (if (j : Int) < (r : Int) then a else b : Nat) = (if (j : Int) < (r : Int) + 1 then a else b : Nat) := by
  by_cases z : (j : Int) < r
  · rw [if_pos z, if_pos (by omega)]
  · rw [if_neg z, if_neg (by omega)]
set_option maxHeartbeats 4000000 in
set_option maxRecDepth 100000 in
theorem c_spreadNeeds (l : Launch) (D : va_G) (cy : Nat → ClassId) (sa : Nat → Addr) (hfl : l.stackTraces = false) (ad : Nat → Nat) (n : Nat) (M : Nat → Int → Int) (hn : n ≤ 8) (nd : Nat → Nat) (hnd : ∀ i, i < n → M (8 + 2 * i) 7 = (nd i : Int) ∧ nd i < 256) (x nn : Nat) (hx : x < n) (hnn : nn < 256) : Ct l D cy sa yX2_spreadNeeds cX2_spreadNeeds 5 none 3 0 0 (cl cy (sa 100) ad n M) [.ref (ad 0), vi (x : Int), vi (nn : Int)] (fun v ws2 => v = none ∧ ∃ M1, ws2 = cl cy (sa 100) ad n M1 ∧ (∀ k j, (j ≠ 7 ∨ k < 8 ∨ k % 2 = 1) → M1 k j = M k j) ∧ ∀ j : Nat, j < n → M1 (8 + 2 * j) 7 = (ndW nd x nn j : Int)) no_x := by
  refine Ct.of (own := RX2) (lc := [(0, .ref (ad 0)), (1, vi (x : Int)), (2, vi (nn : Int))]) (by decide +kernel) hfl (Nat.le_of_ble_eq_true rfl) rfl rfl ?_
  intro p e s m args below meth c A C hex hnm
  generalize hQ : vx_MQ below (Qo D (fun v ws2 => v = none ∧ ∃ M1, ws2 = cl cy (sa 100) ad n M1 ∧ (∀ k j, (j ≠ 7 ∨ k < 8 ∨ k % 2 = 1) → M1 k j = M k j) ∧ ∀ j : Nat, j < n → M1 (8 + 2 * j) 7 = (ndW nd x nn j : Int)) A) (Xo D no_x A) args s 0 0 A = Q
  replace hQ := hQ.symm
  skip
  refine V.iconst C dX2_spreadNeeds_0 ?_
  refine V.istore_n C (lc2 := [(3, vi 0), (0, .ref (ad 0)), (1, vi (x : Int)), (2, vi (nn : Int))]) dX2_spreadNeeds_1 (by decide) rfl ?_
  have loop2 : ∀ (fz : Nat) (i : Int) (M1 : Nat → Int → Int), (0 ≤ i) → (i ≤ n) → (∀ k j, (j ≠ 7 ∨ k < 8 ∨ k % 2 = 1) → M1 k j = M k j) → (∀ j : Nat, j < n → M1 (8 + 2 * j) 7 = ((if (j : Int) < i then ndW nd x nn j else nd j : Nat) : Int)) → (((n : Int) - i).toNat < fz) → V D 5 A p l e (rmL 3 0 0) s m args below meth c Q 0 0 (cl cy (sa 100) ad n M1) 2 [(3, vi i), (0, .ref (ad 0)), (1, vi (x : Int)), (2, vi (nn : Int))] [] := by
    intro fz
    induction fz with
    | zero => intro i M1 e0 e1 e2 e3 hf; exact absurd hf (Nat.not_lt_zero _)
    | succ fz ih2 =>
      intro i M1 e0 e1 e2 e3 hf2
      refine V.iload_n C dX2_spreadNeeds_2 0 rfl ?_
      refine V.aload_n C dX2_spreadNeeds_3 1 rfl ?_
      refine V.getf C (v := .ref (ad 5)) 0 cl_0 rfl inX2 1 (by decide) fl_X2_19 (fun _ h => h) rfl dX2_spreadNeeds_4 ?_
      refine V.callV C (As := []) (st := [vi i]) (wr := []) kV_X2_39 (c_size l D cy sa hfl ad n M1) rfl 5 cl_5 rfl rfl rfl (Nat.le_of_ble_eq_true rfl) ⟨by decide, by decide⟩ ⟨by decide, by decide⟩ dX2_spreadNeeds_7 (fun _ _ h => h.elim) (fun v1 w2 r3 => ?_)
      obtain ⟨rfl, hw2⟩ := r3
      rw [hw2]
      show V D 5 A p l e (rmL 3 0 0) s m args below meth c Q 0 0 (cl cy (sa 100) ad n M1) 10 [(3, vi i), (0, .ref (ad 0)), (1, vi (x : Int)), (2, vi (nn : Int))] [vi (n : Int), vi i]
      refine V.icmp_ge C 57 dX2_spreadNeeds_10 (by decide) ⟨by omega, by omega⟩ ⟨by omega, by omega⟩ (fun h10 => ?_) (fun h10 => ?_)
      · skip
        rw [hQ]
        exact V.vret C dX2_spreadNeeds_57 (by decide) (by decide) (⟨rfl, M1, rfl, e2, fun j hj => by rw [e3 j hj, if_pos (by omega)]⟩)
      · skip
        obtain ⟨r, rfl⟩ : ∃ r : Nat, i = (r : Int) := ⟨i.toNat, by omega⟩
        have hr : r < n := by omega
        have hn7 : M1 (8 + 2 * r) 7 = (nd r : Int) := by rw [e3 r hr, if_neg (by omega)]
        have hn8 := (hnd r hr).2
        refine V.aload_n C dX2_spreadNeeds_13 1 rfl ?_
        refine V.getf C (v := .ref (ad 5)) 0 cl_0 rfl inX2 1 (by decide) fl_X2_19 (fun _ h => h) rfl dX2_spreadNeeds_14 ?_
        refine V.iload_n C dX2_spreadNeeds_17 0 rfl ?_
        refine V.callV C (As := [vi (r : Int)]) (st := []) (wr := []) kV_X2_43 (c_get l D cy sa hfl ad n M1 r hr hn) rfl 5 cl_5 rfl rfl rfl (Nat.le_of_ble_eq_true rfl) ⟨by decide, by decide⟩ ⟨by decide, by decide⟩ dX2_spreadNeeds_18 (fun _ _ h => h.elim) (fun v4 w5 r6 => ?_)
        obtain ⟨rfl, hw5⟩ := r6
        rw [hw5]
        show V D 5 A p l e (rmL 3 0 0) s m args below meth c Q 0 0 (cl cy (sa 100) ad n M1) 21 [(3, vi (r : Int)), (0, .ref (ad 0)), (1, vi (x : Int)), (2, vi (nn : Int))] [.ref (ad (8 + 2 * r))]
        refine V.cast C (8 + 2 * r) (cl_r hr) rfl cl_X2_47 dX2_spreadNeeds_21 ?_
        refine V.astore C (lc2 := [(4, .ref (ad (8 + 2 * r))), (3, vi (r : Int)), (0, .ref (ad 0)), (1, vi (x : Int)), (2, vi (nn : Int))]) dX2_spreadNeeds_24 (by decide) rfl ?_
        refine V.iload_n C dX2_spreadNeeds_26 1 rfl ?_
        refine V.iload_n C dX2_spreadNeeds_27 3 rfl ?_
        refine V.icmp_eq C 40 dX2_spreadNeeds_28 (by decide) ⟨by omega, by omega⟩ ⟨by omega, by omega⟩ (fun h28 => ?_) (fun h28 => ?_)
        · skip
          refine V.aload C dX2_spreadNeeds_40 0 rfl ?_
          refine V.dup C dX2_spreadNeeds_42 rfl ?_
          refine V.getf C (v := vi (nd r : Int)) (8 + 2 * r) (cl_r hr) rfl inX1 7 (by decide) fl_X2_104 (fun _ h => h) (by show some _ = some _; rw [hn7]) dX2_spreadNeeds_43 ?_
          refine V.iload_n C dX2_spreadNeeds_46 4 rfl ?_
          refine V.ior C (z := ((nd r ||| nn : Nat) : Int)) dX2_spreadNeeds_47 (zI_or (nd r) nn) ?_
          refine V.putf C (v := vi ((nd r ||| nn : Nat) : Int)) (ty := .int) (8 + 2 * r) (cl_r hr) rfl inX1 tyX1 tyX1_ok nmX1 7 (by decide) fl_X2_104 (fun _ h => h) rfl (by decide +kernel) rfl rfl (Nat.le_of_ble_eq_true rfl) dX2_spreadNeeds_48 (put_r (q := r) (by decide)) ?_
          refine V.iinc C (lc2 := [(3, vi ((r : Int) + 1)), (4, .ref (ad (8 + 2 * r))), (0, .ref (ad 0)), (1, vi (x : Int)), (2, vi (nn : Int))]) dX2_spreadNeeds_51 1 rfl (by decide) rfl ?_
          refine V.goto C 2 dX2_spreadNeeds_54 (by decide) ?_
          exact V.sub [0, 2, 3, 4] rfl (ih2 ((r : Int) + 1) (upM M1 (8 + 2 * r) 7 ((nd r ||| nn : Nat) : Int)) (by omega) (by omega) (fun k j hkj => (upM_n (by omega)).trans (e2 k j hkj)) (fun j hj => by
                by_cases c : j = r
                · subst c; rw [upM_s, if_pos (by omega), ndW, if_pos (by first | exact Or.inl (by omega) | exact Or.inr h37)]
                · rw [upM_n (Or.inl (by omega)), e3 j hj, spn c]) (by omega))
        · skip
          refine V.aload C dX2_spreadNeeds_31 0 rfl ?_
          refine V.iload_n C dX2_spreadNeeds_33 3 rfl ?_
          refine V.callV C (As := [vi (x : Int)]) (st := []) (wr := []) kV_X2_93 (c_needs l D cy sa hfl ad n M1 r hr (nd r) hn7 x (by omega)) rfl (8 + 2 * r) (cl_r hr) rfl rfl rfl (Nat.le_of_ble_eq_true rfl) ⟨by decide, by decide⟩ ⟨by decide, by decide⟩ dX2_spreadNeeds_34 (fun _ _ h => h.elim) (fun v7 w8 r9 => ?_)
          obtain ⟨rfl, hw8⟩ := r9
          rw [hw8]
          show V D 5 A p l e (rmL 3 0 0) s m args below meth c Q 0 0 (cl cy (sa 100) ad n M1) 37 [(4, .ref (ad (8 + 2 * r))), (3, vi (r : Int)), (0, .ref (ad 0)), (1, vi (x : Int)), (2, vi (nn : Int))] [vi (bI ((nd r).testBit x))]
          refine V.if_eqB C 51 dX2_spreadNeeds_37 (by decide) (fun h37 => ?_) (fun h37 => ?_)
          · skip
            refine V.iinc C (lc2 := [(3, vi ((r : Int) + 1)), (4, .ref (ad (8 + 2 * r))), (0, .ref (ad 0)), (1, vi (x : Int)), (2, vi (nn : Int))]) dX2_spreadNeeds_51 1 rfl (by decide) rfl ?_
            refine V.goto C 2 dX2_spreadNeeds_54 (by decide) ?_
            exact V.sub [0, 2, 3, 4] rfl (ih2 ((r : Int) + 1) M1 (by omega) (by omega) e2 (fun j hj => by
                  by_cases c : j = r
                  · subst c; rw [e3 j hj, if_neg (by omega), if_pos (by omega), ndW, if_neg (by rw [h37]; intro z; rcases z with z | z; (exact h28 (by omega)); (cases z))]
                  · rw [e3 j hj, spn c]) (by omega))
          · skip
            refine V.aload C dX2_spreadNeeds_40 0 rfl ?_
            refine V.dup C dX2_spreadNeeds_42 rfl ?_
            refine V.getf C (v := vi (nd r : Int)) (8 + 2 * r) (cl_r hr) rfl inX1 7 (by decide) fl_X2_104 (fun _ h => h) (by show some _ = some _; rw [hn7]) dX2_spreadNeeds_43 ?_
            refine V.iload_n C dX2_spreadNeeds_46 4 rfl ?_
            refine V.ior C (z := ((nd r ||| nn : Nat) : Int)) dX2_spreadNeeds_47 (zI_or (nd r) nn) ?_
            refine V.putf C (v := vi ((nd r ||| nn : Nat) : Int)) (ty := .int) (8 + 2 * r) (cl_r hr) rfl inX1 tyX1 tyX1_ok nmX1 7 (by decide) fl_X2_104 (fun _ h => h) rfl (by decide +kernel) rfl rfl (Nat.le_of_ble_eq_true rfl) dX2_spreadNeeds_48 (put_r (q := r) (by decide)) ?_
            refine V.iinc C (lc2 := [(3, vi ((r : Int) + 1)), (4, .ref (ad (8 + 2 * r))), (0, .ref (ad 0)), (1, vi (x : Int)), (2, vi (nn : Int))]) dX2_spreadNeeds_51 1 rfl (by decide) rfl ?_
            refine V.goto C 2 dX2_spreadNeeds_54 (by decide) ?_
            exact V.sub [0, 2, 3, 4] rfl (ih2 ((r : Int) + 1) (upM M1 (8 + 2 * r) 7 ((nd r ||| nn : Nat) : Int)) (by omega) (by omega) (fun k j hkj => (upM_n (by omega)).trans (e2 k j hkj)) (fun j hj => by
                  by_cases c : j = r
                  · subst c; rw [upM_s, if_pos (by omega), ndW, if_pos (by first | exact Or.inl (by omega) | exact Or.inr h37)]
                  · rw [upM_n (Or.inl (by omega)), e3 j hj, spn c]) (by omega))
  exact loop2 _ 0 M (by omega) (by omega) (fun _ _ _ => rfl) (fun j hj => by rw [if_neg (by omega)]; exact (hnd j hj).1) (Nat.lt_succ_self _)
def kReq (n : Nat) (nd : Nat → Nat) (x z : Int) : Int := if (0 ≤ x ∧ x < (n : Int)) ∧ 0 ≤ z ∧ z < (n : Int) then (if x = z ∨ (nd z.toNat).testBit x.toNat = true then 2 else 0) else 1
def rqN (rq : Nat → Nat) (x z : Nat) : Nat → Nat := fun i => if i = x then rq i ||| 2 ^ z else rq i
def ndN (rq nd : Nat → Nat) (x z : Nat) : Nat → Nat := if (rq x).testBit z = true then nd else ndW nd x (nd z ||| 2 ^ z)
theorem rqN_same {rq : Nat → Nat} {x z : Nat} (h : (rq x).testBit z = true) : rqN rq x z = rq := by
  funext i
  unfold rqN
  split
  · rename_i e
    subst e
    apply Nat.eq_of_testBit_eq
    intro j
    rw [Nat.testBit_or, Nat.testBit_two_pow]
    by_cases c : z = j
    · subst c; simp [h]
    · simp [c]
  · rfl
theorem CI.req {h : Int → Bool} {td : Int} {n : Nat} {q : Nat → Nat → Int} {rq nd : Nat → Nat} {M M1 : Nat → Int → Int} (hc : CI h td n q rq nd M) {r o : Nat} (hr : r < n) (ho : o < n)
    (m1 : ∀ k j, (j ≠ 7 ∨ k < 8 ∨ k % 2 = 1) → M1 k j = upM M (8 + 2 * r) 6 ((rq r ||| 2 ^ o : Nat) : Int) k j) (m2 : ∀ j : Nat, j < n → M1 (8 + 2 * j) 7 = (ndW nd r (nd o ||| 2 ^ o) j : Int)) : CI h td n q (rqN rq r o) (ndW nd r (nd o ||| 2 ^ o)) M1 := by
  obtain ⟨c1, c2, c3, c4⟩ := hc
  have off : ∀ k, k < 8 ∨ k % 2 = 1 → M1 k = M k := fun k hk => funext fun j => (m1 k j (Or.inr hk)).trans (upM_n (Or.inl (by omega)))
  have po : 2 ^ o < 256 := by have := pow8 (show o < 8 by omega); omega
  refine ⟨c1.same (off 2 (by omega)) (off 3 (by omega)) (off 4 (by omega)), by rw [off 0 (by omega)]; exact c2, c3, fun i hi => ?_⟩
  obtain ⟨⟨b0, b1, b2, b3, b4, b5, b8, b9⟩, p, d, r6, r6b, r7, r7b⟩ := c4 i hi
  have g : ∀ j : Int, j ≠ 6 → j ≠ 7 → M1 (8 + 2 * i) j = M (8 + 2 * i) j := fun j h6 h7 => (m1 _ j (Or.inl h7)).trans (upM_n (Or.inr h6))
  have e6 : M1 (8 + 2 * i) 6 = (rqN rq r o i : Int) := by
    rw [m1 _ 6 (Or.inl (by decide))]
    by_cases c : i = r
    · subst c; rw [upM_s, rqN, if_pos rfl]
    · rw [upM_n (Or.inl (by omega)), rqN, if_neg c]; exact r6
  refine ⟨⟨by rw [g 0 (by decide) (by decide)]; exact b0, by rw [g 1 (by decide) (by decide)]; exact b1, by rw [g 2 (by decide) (by decide)]; exact b2, by rw [g 3 (by decide) (by decide)]; exact b3, by rw [g 4 (by decide) (by decide)]; exact b4, by rw [g 5 (by decide) (by decide)]; exact b5, by rw [g 8 (by decide) (by decide)]; exact b8, by rw [g 9 (by decide) (by decide)]; exact b9⟩, p, by rw [off _ (by omega)]; exact d, e6, ?_, m2 i hi, ?_⟩
  · unfold rqN; split
    · exact or8 r6b po
    · exact r6b
  · unfold ndW; split
    · exact or8 r7b (or8 (c4 o ho).2.2.2.2.2.2 po)
    · exact r7b
set_option maxHeartbeats 4000000 in
set_option maxRecDepth 100000 in
theorem c_require (l : Launch) (D : va_G) (cy : Nat → ClassId) (sa : Nat → Addr) (hfl : l.stackTraces = false) (ad : Nat → Nat) (n : Nat) (M : Nat → Int → Int) (h : Int → Bool) (td : Int) (q : Nat → Nat → Int) (rq nd : Nat → Nat) (hci : CI h td n q rq nd M) (x : Int) (hx : inR x) (z : Int) (hz : inR z) : Ct l D cy sa yX2_require cX2_require 5 (some .boolean) 8 6 36 (cl cy (sa 100) ad n M) [.ref (ad 0), vi x, vi z] (fun v ws2 => kReq n nd x z = 0 ∧ v = some (vi (bI (!(rq x.toNat).testBit z.toNat))) ∧ ∃ M2, ws2 = cl cy (sa 100) ad n M2 ∧ CI h td n q (rqN rq x.toNat z.toNat) (ndN rq nd x.toNat z.toNat) M2) (fun E ws2 => ((E = xIO ∧ kReq n nd x z = 1) ∨ (E = xIS ∧ kReq n nd x z = 2)) ∧ ∃ M2, ws2 = cl cy (sa 100) ad n M2 ∧ CI h td n q rq nd M2) := by
  refine Ct.of (own := RX2) (lc := [(0, .ref (ad 0)), (1, vi x), (2, vi z)]) (by decide +kernel) hfl (Nat.le_of_ble_eq_true rfl) rfl rfl ?_
  intro p e s m args below meth c A C hex hnm
  generalize hQ : vx_MQ below (Qo D (fun v ws2 => kReq n nd x z = 0 ∧ v = some (vi (bI (!(rq x.toNat).testBit z.toNat))) ∧ ∃ M2, ws2 = cl cy (sa 100) ad n M2 ∧ CI h td n q (rqN rq x.toNat z.toNat) (ndN rq nd x.toNat z.toNat) M2) A) (Xo D (fun E ws2 => ((E = xIO ∧ kReq n nd x z = 1) ∨ (E = xIS ∧ kReq n nd x z = 2)) ∧ ∃ M2, ws2 = cl cy (sa 100) ad n M2 ∧ CI h td n q rq nd M2) A) args s 6 36 A = Q
  replace hQ := hQ.symm
  obtain ⟨hc, ⟨htd, td0, td1⟩, hn, hR⟩ := id hci
  obtain ⟨hxl, hxr⟩ := hx
  obtain ⟨hzl, hzr⟩ := hz
  refine V.aload_n C dX2_require_0 0 rfl ?_
  refine V.iload_n C dX2_require_1 1 rfl ?_
  refine V.callV C (As := [vi x]) (st := []) (wr := []) kV_X2_86 (c_ruleAt l D cy sa hfl ad n M hn x ⟨by omega, by omega⟩) rfl 0 cl_0 rfl rfl rfl (Nat.le_of_ble_eq_true rfl) ⟨by decide, by decide⟩ ⟨by decide, by decide⟩ dX2_require_2 (fun E wsx hx => ?_) (fun v1 w2 r3 => ?_)
  · skip
    obtain ⟨rfl, rfl, hx1⟩ := hx
    rw [hQ]
    exact VX.out C hex (by decide) (by decide) ⟨Or.inl ⟨rfl, by rw [kReq, if_neg (by omega)]⟩, M, rfl, hci⟩
  · skip
    obtain ⟨r, hr, hxx, rfl, hw2⟩ := r3
    subst hxx
    rw [hw2]
    obtain ⟨hkr, hpr, hdr, hqr, hq8r, hnr, hn8r⟩ := hR r hr
    show V D 5 A p l e (rmL 8 6 36) s m args below meth c Q 1 6 (cl cy (sa 100) ad n M) 5 [(0, .ref (ad 0)), (1, vi (r : Int)), (2, vi z)] [.ref (ad (8 + 2 * r))]
    refine V.astore_n C (lc2 := [(3, .ref (ad (8 + 2 * r))), (0, .ref (ad 0)), (1, vi (r : Int)), (2, vi z)]) dX2_require_5 (by decide) rfl ?_
    refine V.aload_n C dX2_require_6 1 rfl ?_
    refine V.iload_n C dX2_require_7 3 rfl ?_
    refine V.callV C (As := [vi z]) (st := []) (wr := []) kV_X2_86 (c_ruleAt l D cy sa hfl ad n M hn z ⟨by omega, by omega⟩) rfl 0 cl_0 rfl rfl rfl (Nat.le_of_ble_eq_true rfl) ⟨by decide, by decide⟩ ⟨by decide, by decide⟩ dX2_require_8 (fun E wsx hx => ?_) (fun v4 w5 r6 => ?_)
    · skip
      obtain ⟨rfl, rfl, hx1⟩ := hx
      rw [hQ]
      exact VX.out C hex (by decide) (by decide) ⟨Or.inl ⟨rfl, by rw [kReq, if_neg (by omega)]⟩, M, rfl, hci⟩
    · skip
      obtain ⟨o, ho, hxz, rfl, hw5⟩ := r6
      subst hxz
      rw [hw5]
      obtain ⟨hko, hpo, hdo, hqo, hq8o, hno, hn8o⟩ := hR o ho
      show V D 5 A p l e (rmL 8 6 36) s m args below meth c Q 2 12 (cl cy (sa 100) ad n M) 11 [(3, .ref (ad (8 + 2 * r))), (0, .ref (ad 0)), (1, vi (r : Int)), (2, vi (o : Int))] [.ref (ad (8 + 2 * o))]
      refine V.astore C (lc2 := [(4, .ref (ad (8 + 2 * o))), (3, .ref (ad (8 + 2 * r))), (0, .ref (ad 0)), (1, vi (r : Int)), (2, vi (o : Int))]) dX2_require_11 (by decide) rfl ?_
      refine V.iload_n C dX2_require_13 3 rfl ?_
      refine V.iload_n C dX2_require_14 4 rfl ?_
      refine V.icmp_eq C 27 dX2_require_15 (by decide) ⟨by omega, by omega⟩ ⟨by omega, by omega⟩ (fun h15 => ?_) (fun h15 => ?_)
      · skip
        rw [hQ]
        exact V.throw_ISE C hex 6 rfl dX2_require_27 dX2_require_30 dX2_require_31 dX2_require_33 dX2_require_36 (by decide) (Nat.le_of_ble_eq_true rfl) (by decide) (by decide) ⟨by decide, by decide⟩ (⟨Or.inr ⟨rfl, by rw [kReq, if_pos (by omega), Int.toNat_natCast, Int.toNat_natCast, if_pos (by first | exact Or.inl (by omega) | exact Or.inr h24)]⟩, M, rfl, hci⟩)
      · skip
        refine V.aload C dX2_require_18 0 rfl ?_
        refine V.iload_n C dX2_require_20 3 rfl ?_
        refine V.callV C (As := [vi (r : Int)]) (st := []) (wr := []) kV_X2_93 (c_needs l D cy sa hfl ad n M o ho (nd o) hno r (by omega)) rfl (8 + 2 * o) (cl_r ho) rfl rfl rfl (Nat.le_of_ble_eq_true rfl) ⟨by decide, by decide⟩ ⟨by decide, by decide⟩ dX2_require_21 (fun _ _ h => h.elim) (fun v7 w8 r9 => ?_)
        obtain ⟨rfl, hw8⟩ := r9
        rw [hw8]
        show V D 5 A p l e (rmL 8 6 36) s m args below meth c Q 2 12 (cl cy (sa 100) ad n M) 24 [(4, .ref (ad (8 + 2 * o))), (3, .ref (ad (8 + 2 * r))), (0, .ref (ad 0)), (1, vi (r : Int)), (2, vi (o : Int))] [vi (bI ((nd o).testBit r))]
        refine V.if_eqB C 37 dX2_require_24 (by decide) (fun h24 => ?_) (fun h24 => ?_)
        · skip
          refine V.aload_n C dX2_require_37 1 rfl ?_
          refine V.iload_n C dX2_require_38 4 rfl ?_
          refine V.callV C (As := [vi (o : Int)]) (st := []) (wr := []) kV_X2_98 (c_requires l D cy sa hfl ad n M r hr (rq r) hqr o (by omega)) rfl (8 + 2 * r) (cl_r hr) rfl rfl rfl (Nat.le_of_ble_eq_true rfl) ⟨by decide, by decide⟩ ⟨by decide, by decide⟩ dX2_require_39 (fun _ _ h => h.elim) (fun v10 w11 r12 => ?_)
          obtain ⟨rfl, hw11⟩ := r12
          rw [hw11]
          show V D 5 A p l e (rmL 8 6 36) s m args below meth c Q 2 12 (cl cy (sa 100) ad n M) 42 [(4, .ref (ad (8 + 2 * o))), (3, .ref (ad (8 + 2 * r))), (0, .ref (ad 0)), (1, vi (r : Int)), (2, vi (o : Int))] [vi (bI ((rq r).testBit o))]
          refine V.if_eqB C 47 dX2_require_42 (by decide) (fun h42 => ?_) (fun h42 => ?_)
          · skip
            refine V.aload_n C dX2_require_47 1 rfl ?_
            refine V.dup C dX2_require_48 rfl ?_
            refine V.getf C (v := vi (rq r : Int)) (8 + 2 * r) (cl_r hr) rfl inX1 6 (by decide) fl_X2_101 (fun _ h => h) (by show some _ = some _; rw [hqr]) dX2_require_49 ?_
            refine V.iconst C dX2_require_52 ?_
            refine V.iload_n C dX2_require_53 4 rfl ?_
            refine V.ishl C (z := ((2 ^ o : Nat) : Int)) dX2_require_54 (zI_shl1 (by omega)) ?_
            refine V.ior C (z := ((rq r ||| 2 ^ o : Nat) : Int)) dX2_require_55 (zI_or (rq r) (2 ^ o)) ?_
            refine V.putf C (v := vi ((rq r ||| 2 ^ o : Nat) : Int)) (ty := .int) (8 + 2 * r) (cl_r hr) rfl inX1 tyX1 tyX1_ok nmX1 6 (by decide) fl_X2_101 (fun _ h => h) rfl (by decide +kernel) rfl rfl (Nat.le_of_ble_eq_true rfl) dX2_require_56 (put_r (q := r) (by decide)) ?_
            show V D 5 A p l e (rmL 8 6 36) s m args below meth c Q 2 12 (cl cy (sa 100) ad n (upM M (8 + 2 * r) 6 ((rq r ||| 2 ^ o : Nat) : Int))) 59 [(4, .ref (ad (8 + 2 * o))), (3, .ref (ad (8 + 2 * r))), (0, .ref (ad 0)), (1, vi (r : Int)), (2, vi (o : Int))] []
            obtain ⟨M1, hM1⟩ : ∃ y, y = (upM M (8 + 2 * r) 6 ((rq r ||| 2 ^ o : Nat) : Int)) := ⟨_, rfl⟩
            rw [← hM1]
            refine V.aload_n C dX2_require_59 2 rfl ?_
            refine V.iload_n C dX2_require_60 3 rfl ?_
            refine V.aload C dX2_require_61 0 rfl ?_
            refine V.getf C (v := vi (nd o : Int)) (8 + 2 * o) (cl_r ho) rfl inX1 7 (by decide) fl_X2_104 (fun _ h => h) (by show some _ = some _; rw [hM1, upM_n (Or.inr (show (7 : Int) ≠ 6 by decide)), hno]) dX2_require_63 ?_
            refine V.iconst C dX2_require_66 ?_
            refine V.iload_n C dX2_require_67 4 rfl ?_
            refine V.ishl C (z := ((2 ^ o : Nat) : Int)) dX2_require_68 (zI_shl1 (by omega)) ?_
            refine V.ior C (z := ((nd o ||| 2 ^ o : Nat) : Int)) dX2_require_69 (zI_or (nd o) (2 ^ o)) ?_
            refine V.callV C (As := [vi (r : Int), vi ((nd o ||| 2 ^ o : Nat) : Int)]) (st := []) (wr := []) kV_X2_107 (c_spreadNeeds l D cy sa hfl ad n M1 hn nd (fun i hi => ⟨by rw [hM1, upM_n (Or.inr (by decide))]; exact (hR i hi).2.2.2.2.2.1, (hR i hi).2.2.2.2.2.2⟩) r (nd o ||| 2 ^ o) hr (or8 hn8o (by have := pow8 (show o < 8 by omega); omega))) rfl 0 cl_0 rfl rfl rfl (Nat.le_of_ble_eq_true rfl) ⟨by decide, by decide⟩ ⟨by decide, by decide⟩ dX2_require_70 (fun _ _ h => h.elim) (fun v13 w14 r15 => ?_)
            obtain ⟨rfl, M2, hw14, m1, m2⟩ := r15
            rw [hw14]
            show V D 5 A p l e (rmL 8 6 36) s m args below meth c Q 2 12 (cl cy (sa 100) ad n M2) 73 [(4, .ref (ad (8 + 2 * o))), (3, .ref (ad (8 + 2 * r))), (0, .ref (ad 0)), (1, vi (r : Int)), (2, vi (o : Int))] []
            refine V.iconst C dX2_require_73 ?_
            show V D 5 A p l e (rmL 8 6 36) s m args below meth c Q 2 12 (cl cy (sa 100) ad n M2) 74 [(4, .ref (ad (8 + 2 * o))), (3, .ref (ad (8 + 2 * r))), (0, .ref (ad 0)), (1, vi (r : Int)), (2, vi (o : Int))] [vi (bI true)]
            rw [hQ]
            exact V.zret C dX2_require_74 (by decide) (by decide) (⟨by rw [kReq, if_pos (by omega), Int.toNat_natCast, Int.toNat_natCast, if_neg (by rw [h24]; intro z9; rcases z9 with z9 | z9; (exact h15 z9); (cases z9))], rb (by rw [Int.toNat_natCast, Int.toNat_natCast, h42]; rfl), M2, rfl, by rw [Int.toNat_natCast, Int.toNat_natCast, ndN, if_neg (by rw [h42]; decide)]; rw [hM1] at m1; exact hci.req hr ho m1 m2⟩)
          · skip
            refine V.iconst C dX2_require_45 ?_
            show V D 5 A p l e (rmL 8 6 36) s m args below meth c Q 2 12 (cl cy (sa 100) ad n M) 46 [(4, .ref (ad (8 + 2 * o))), (3, .ref (ad (8 + 2 * r))), (0, .ref (ad 0)), (1, vi (r : Int)), (2, vi (o : Int))] [vi (bI false)]
            rw [hQ]
            exact V.zret C dX2_require_46 (by decide) (by decide) (⟨by rw [kReq, if_pos (by omega), Int.toNat_natCast, Int.toNat_natCast, if_neg (by rw [h24]; intro z9; rcases z9 with z9 | z9; (exact h15 z9); (cases z9))], rb (by rw [Int.toNat_natCast, Int.toNat_natCast, h42]; rfl), M, rfl, by rw [Int.toNat_natCast, Int.toNat_natCast, rqN_same h42, ndN, if_pos h42]; exact hci⟩)
        · skip
          rw [hQ]
          exact V.throw_ISE C hex 6 rfl dX2_require_27 dX2_require_30 dX2_require_31 dX2_require_33 dX2_require_36 (by decide) (Nat.le_of_ble_eq_true rfl) (by decide) (by decide) ⟨by decide, by decide⟩ (⟨Or.inr ⟨rfl, by rw [kReq, if_pos (by omega), Int.toNat_natCast, Int.toNat_natCast, if_pos (by first | exact Or.inl (by omega) | exact Or.inr h24)]⟩, M, rfl, hci⟩)
