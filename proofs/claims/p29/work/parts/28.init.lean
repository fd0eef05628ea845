set_option maxHeartbeats 4000000 in
set_option maxRecDepth 100000 in
theorem c_collInit (l : Launch) (D : va_G) (cy : Nat → ClassId) (sa : Nat → Addr) (hfl : l.stackTraces = false) (b5 : Nat) : Ct l D cy sa yJxa1e45_init_da8c8 cJxa1e45_init_da8c8 1 none 1 0 0 ([(b5, .inr (0, [vi 0, .null, vi 0]))]) [.ref b5] (fun v ws2 => v = none ∧ ws2 = [(b5, .inr (0, [vi 0, .null, vi 0]))]) no_x := by
  refine Ct.of (own := RJxa1e45) (lc := [(0, .ref b5)]) (by decide +kernel) hfl (Nat.le_of_ble_eq_true rfl) rfl rfl ?_
  intro p e s m args below meth c A C hex hnm
  generalize hQ : vx_MQ below (Qo D (fun v ws2 => v = none ∧ ws2 = [(b5, .inr (0, [vi 0, .null, vi 0]))]) A) (Xo D no_x A) args s 0 0 A = Q
  replace hQ := hQ.symm
  refine V.aload_n C dJxa1e45_init_da8c8_0 0 rfl ?_
  refine V.objInit C ml_Jxa1e45_1 dJxa1e45_init_da8c8_1 (by decide) (Nat.le_of_ble_eq_true rfl) ?_
  rw [hQ]
  exact V.vret C dJxa1e45_init_da8c8_4 (by decide) (by decide) (⟨rfl, rfl⟩)
set_option maxHeartbeats 4000000 in
set_option maxRecDepth 100000 in
theorem c_alistInit (l : Launch) (D : va_G) (cy : Nat → ClassId) (sa : Nat → Addr) (hfl : l.stackTraces = false) (b5 : Nat) : Ct l D cy sa yJxc12de_init_da8c8 cJxc12de_init_da8c8 1 none 2 0 0 ([(b5, .inr (0, [vi 0, .null, vi 0]))]) [.ref b5] (fun v ws2 => v = none ∧ ws2 = [(b5, .inr (0, [vi 0, .null, vi 0]))]) no_x := by
  refine Ct.of (own := RJxc12de) (lc := [(0, .ref b5)]) (by decide +kernel) hfl (Nat.le_of_ble_eq_true rfl) rfl rfl ?_
  intro p e s m args below meth c A C hex hnm
  generalize hQ : vx_MQ below (Qo D (fun v ws2 => v = none ∧ ws2 = [(b5, .inr (0, [vi 0, .null, vi 0]))]) A) (Xo D no_x A) args s 0 0 A = Q
  replace hQ := hQ.symm
  refine V.aload_n C dJxc12de_init_da8c8_0 0 rfl ?_
  refine V.callI C (As := []) (st := []) (wr := []) kI_Jxc12de_1 (c_collInit l D cy sa hfl b5) rfl rfl rfl (Nat.le_of_ble_eq_true rfl) ⟨by decide, by decide⟩ ⟨by decide, by decide⟩ dJxc12de_init_da8c8_1 (fun _ _ h => h.elim) (fun v1 w2 r3 => ?_)
  obtain ⟨rfl, hw2⟩ := r3
  rw [hw2]
  show V D 1 A p l e (rmL 2 0 0) s m args below meth c Q 0 0 ([(b5, .inr (0, [vi 0, .null, vi 0]))]) 4 [(0, .ref b5)] []
  refine V.aload_n C dJxc12de_init_da8c8_4 0 rfl ?_
  refine V.iconst C dJxc12de_init_da8c8_5 ?_
  refine V.putf C (v := vi 0) (ty := .int) 0 rfl rfl inJx4a65c tyJx4a65c tyJx4a65c_ok nmJx4a65c 0 (by decide) fl_Jxc12de_7 (fun _ h => h) rfl (by decide +kernel) rfl rfl (Nat.le_of_ble_eq_true rfl) dJxc12de_init_da8c8_6 rfl ?_
  show V D 1 A p l e (rmL 2 0 0) s m args below meth c Q 0 0 ([(b5, .inr (0, [vi 0, .null, vi 0]))]) 9 [(0, .ref b5)] []
  rw [hQ]
  exact V.vret C dJxc12de_init_da8c8_9 (by decide) (by decide) (⟨rfl, rfl⟩)
set_option maxHeartbeats 4000000 in
set_option maxRecDepth 100000 in
theorem c_listInit (l : Launch) (D : va_G) (cy : Nat → ClassId) (sa : Nat → Addr) (hfl : l.stackTraces = false) (b5 : Nat) : Ct l D cy sa yJx4a65c_init_da8c8 cJx4a65c_init_da8c8 1 none 3 0 0 ([(b5, .inr (0, [vi 0, .null, vi 0]))]) [.ref b5] (fun v ws2 => v = none ∧ ws2 = [(b5, .inr (0, [vi 0, .ref (sa 100), vi 0]))]) no_x := by
  refine Ct.of (own := RJx4a65c) (lc := [(0, .ref b5)]) (by decide +kernel) hfl (Nat.le_of_ble_eq_true rfl) rfl rfl ?_
  intro p e s m args below meth c A C hex hnm
  generalize hQ : vx_MQ below (Qo D (fun v ws2 => v = none ∧ ws2 = [(b5, .inr (0, [vi 0, .ref (sa 100), vi 0]))]) A) (Xo D no_x A) args s 0 0 A = Q
  replace hQ := hQ.symm
  refine V.aload_n C dJx4a65c_init_da8c8_0 0 rfl ?_
  refine V.callI C (As := []) (st := []) (wr := []) kI_Jx4a65c_1 (c_alistInit l D cy sa hfl b5) rfl rfl rfl (Nat.le_of_ble_eq_true rfl) ⟨by decide, by decide⟩ ⟨by decide, by decide⟩ dJx4a65c_init_da8c8_1 (fun _ _ h => h.elim) (fun v1 w2 r3 => ?_)
  obtain ⟨rfl, hw2⟩ := r3
  rw [hw2]
  show V D 1 A p l e (rmL 3 0 0) s m args below meth c Q 0 0 ([(b5, .inr (0, [vi 0, .null, vi 0]))]) 4 [(0, .ref b5)] []
  refine V.aload_n C dJx4a65c_init_da8c8_4 0 rfl ?_
  refine V.gets C dJx4a65c_init_da8c8_5 ?_
  refine V.putf C (v := .ref (sa 100)) (ty := (tyJx4a65c 1)) 0 rfl rfl inJx4a65c tyJx4a65c tyJx4a65c_ok nmJx4a65c 1 (by decide) fl_Jx4a65c_9 (fun _ h => h) rfl (by decide +kernel) rfl rfl (Nat.le_of_ble_eq_true rfl) dJx4a65c_init_da8c8_8 rfl ?_
  show V D 1 A p l e (rmL 3 0 0) s m args below meth c Q 0 0 ([(b5, .inr (0, [vi 0, .ref (sa 100), vi 0]))]) 11 [(0, .ref b5)] []
  rw [hQ]
  exact V.vret C dJx4a65c_init_da8c8_11 (by decide) (by decide) (⟨rfl, rfl⟩)
set_option maxHeartbeats 4000000 in
set_option maxRecDepth 100000 in
theorem c_calInit (l : Launch) (D : va_G) (cy : Nat → ClassId) (sa : Nat → Addr) (hfl : l.stackTraces = false) (b1 : Nat) : Ct l D cy sa yX0_init cX0_init 2 none 3 3 2160 ([(b1, .inr (1, [.null, .null, .null]))]) [.ref b1] (fun v ws2 => v = none ∧ ∃ (ad : Nat → Nat) (M1 : Nat → Int → Int), ws2 = kl cy ad M1 ∧ ad 1 = b1 ∧ CalI (fun _ => false) M1) no_x := by
  refine Ct.of (own := RX0) (lc := [(0, .ref b1)]) (by decide +kernel) hfl (Nat.le_of_ble_eq_true rfl) rfl rfl ?_
  intro p e s m args below meth c A C hex hnm
  generalize hQ : vx_MQ below (Qo D (fun v ws2 => v = none ∧ ∃ (ad : Nat → Nat) (M1 : Nat → Int → Int), ws2 = kl cy ad M1 ∧ ad 1 = b1 ∧ CalI (fun _ => false) M1) A) (Xo D no_x A) args s 3 2160 A = Q
  replace hQ := hQ.symm
  refine V.aload_n C dX0_init_0 0 rfl ?_
  refine V.objInit C ml_X0_3 dX0_init_1 (by decide) (Nat.le_of_ble_eq_true rfl) ?_
  refine V.aload_n C dX0_init_4 0 rfl ?_
  refine V.sipush C dX0_init_5 (by decide) ?_
  refine V.newZ C 720 (by decide) (by decide) (Nat.le_of_ble_eq_true rfl) (Nat.le_of_ble_eq_true rfl) dX0_init_8 (fun b2 => ?_)
  show V D 2 A p l e (rmL 3 3 2160) s m args below meth c Q 1 720 ([(b1, .inr (1, [.null, .null, .null])), (b2, arZ cy 720 (fun _ => 0))]) 10 [(0, .ref b1)] [.ref b2, .ref b1]
  refine V.putF C (v := .ref b2) (ty := (tyX0 0)) 0 rfl rfl inX0 tyX0 tyX0_ok nmX0 0 (by decide) fl_X0_9 (fun _ h => h) rfl hnm rfl (by decide +kernel) rfl rfl (Nat.le_of_ble_eq_true rfl) dX0_init_10 rfl ?_
  show V D 2 A p l e (rmL 3 3 2160) s m args below meth c Q 1 720 ([(b1, .inr (1, [.ref b2, .null, .null])), (b2, arZ cy 720 (fun _ => 0))]) 13 [(0, .ref b1)] []
  refine V.aload_n C dX0_init_13 0 rfl ?_
  refine V.sipush C dX0_init_14 (by decide) ?_
  refine V.newI C 720 (by decide) (by decide) (Nat.le_of_ble_eq_true rfl) (Nat.le_of_ble_eq_true rfl) dX0_init_17 (fun b3 => ?_)
  show V D 2 A p l e (rmL 3 3 2160) s m args below meth c Q 2 1440 ([(b1, .inr (1, [.ref b2, .null, .null])), (b2, arZ cy 720 (fun _ => 0)), (b3, arI cy 720 (fun _ => 0))]) 19 [(0, .ref b1)] [.ref b3, .ref b1]
  refine V.putF C (v := .ref b3) (ty := (tyX0 1)) 0 rfl rfl inX0 tyX0 tyX0_ok nmX0 1 (by decide) fl_X0_15 (fun _ h => h) rfl hnm rfl (by decide +kernel) rfl rfl (Nat.le_of_ble_eq_true rfl) dX0_init_19 rfl ?_
  show V D 2 A p l e (rmL 3 3 2160) s m args below meth c Q 2 1440 ([(b1, .inr (1, [.ref b2, .ref b3, .null])), (b2, arZ cy 720 (fun _ => 0)), (b3, arI cy 720 (fun _ => 0))]) 22 [(0, .ref b1)] []
  refine V.aload_n C dX0_init_22 0 rfl ?_
  refine V.sipush C dX0_init_23 (by decide) ?_
  refine V.newI C 720 (by decide) (by decide) (Nat.le_of_ble_eq_true rfl) (Nat.le_of_ble_eq_true rfl) dX0_init_26 (fun b4 => ?_)
  show V D 2 A p l e (rmL 3 3 2160) s m args below meth c Q 3 2160 ([(b1, .inr (1, [.ref b2, .ref b3, .null])), (b2, arZ cy 720 (fun _ => 0)), (b3, arI cy 720 (fun _ => 0)), (b4, arI cy 720 (fun _ => 0))]) 28 [(0, .ref b1)] [.ref b4, .ref b1]
  refine V.putF C (v := .ref b4) (ty := (tyX0 2)) 0 rfl rfl inX0 tyX0 tyX0_ok nmX0 2 (by decide) fl_X0_19 (fun _ h => h) rfl hnm rfl (by decide +kernel) rfl rfl (Nat.le_of_ble_eq_true rfl) dX0_init_28 rfl ?_
  show V D 2 A p l e (rmL 3 3 2160) s m args below meth c Q 3 2160 ([(b1, .inr (1, [.ref b2, .ref b3, .ref b4])), (b2, arZ cy 720 (fun _ => 0)), (b3, arI cy 720 (fun _ => 0)), (b4, arI cy 720 (fun _ => 0))]) 31 [(0, .ref b1)] []
  obtain ⟨ad, had⟩ : ∃ y : Nat → Nat, y = fun k => if k = 1 then b1 else if k = 2 then b2 else if k = 3 then b3 else b4 := ⟨_, rfl⟩
  have a1 : ad 1 = b1 := by rw [had]; rfl
  have a2 : ad 2 = b2 := by rw [had]; rfl
  have a3 : ad 3 = b3 := by rw [had]; rfl
  have a4 : ad 4 = b4 := by rw [had]; rfl
  clear had
  subst a1 a2 a3 a4
  obtain ⟨M0, hM0⟩ : ∃ y : Nat → Int → Int, y = fun _ _ => 0 := ⟨_, rfl⟩
  rw [show [((ad 1), .inr (1, [.ref (ad 2), .ref (ad 3), .ref (ad 4)])), ((ad 2), arZ cy 720 (fun _ => 0)), ((ad 3), arI cy 720 (fun _ => 0)), ((ad 4), arI cy 720 (fun _ => 0))] = kl cy ad M0 by rw [hM0]; rfl]
  show V D 2 A p l e (rmL 3 3 2160) s m args below meth c Q 3 2160 (kl cy ad M0) 31 [(0, .ref (ad 1))] []
  refine V.iconst C dX0_init_31 ?_
  refine V.istore_n C (lc2 := [(1, vi 0), (0, .ref (ad 1))]) dX0_init_32 (by decide) rfl ?_
  have loop33 : ∀ (fz : Nat) (m0 : Int) (M1 : Nat → Int → Int), (0 ≤ m0) → (m0 ≤ 720) → (m0 % 30 = 0) → (CH (fun _ => false) M1) → (∀ d : Int, 0 ≤ d → d < m0 → M1 3 d = NS (fun _ => false) d ∧ M1 4 d = NE (fun _ => false) d) → ((720 - m0).toNat < fz) → V D 2 A p l e (rmL 3 3 2160) s m args below meth c Q 3 2160 (kl cy ad M1) 33 [(1, vi m0), (0, .ref (ad 1))] [] := by
    intro fz
    induction fz with
    | zero => intro m0 M1 e0 e1 e2 e3 e4 hf; exact absurd hf (Nat.not_lt_zero _)
    | succ fz ih33 =>
      intro m0 M1 e0 e1 e2 e3 e4 hf33
      refine V.iload_n C dX0_init_33 0 rfl ?_
      refine V.sipush C dX0_init_34 (by decide) ?_
      refine V.icmp_ge C 51 dX0_init_37 (by decide) ⟨by omega, by omega⟩ ⟨by decide, by decide⟩ (fun h37 => ?_) (fun h37 => ?_)
      · skip
        rw [hQ]
        exact V.vret C dX0_init_51 (by decide) (by decide) (⟨rfl, ad, M1, rfl, rfl, e3, fun d h0 h1 => e4 d h0 (by omega)⟩)
      · skip
        refine V.aload_n C dX0_init_40 1 rfl ?_
        refine V.iload_n C dX0_init_41 0 rfl ?_
        refine V.callV C (As := [vi m0]) (st := []) (wr := []) kV_X0_22 (c_numberMonthOf_K l D cy sa hfl ad M1 (fun _ => false) m0 (by omega) (by omega) e3) rfl 0 rfl rfl rfl rfl (Nat.le_of_ble_eq_true rfl) ⟨by decide, by decide⟩ ⟨by decide, by decide⟩ dX0_init_42 (fun _ _ h => h.elim) (fun v1 w2 r3 => ?_)
        obtain ⟨rfl, M2, hw2, hm⟩ := r3
        rw [hw2]
        show V D 2 A p l e (rmL 3 3 2160) s m args below meth c Q 3 2160 (kl cy ad M2) 45 [(1, vi m0), (0, .ref (ad 1))] []
        refine V.iinc C (lc2 := [(1, vi (m0 + 30)), (0, .ref (ad 1))]) dX0_init_45 0 rfl (by decide) rfl ?_
        refine V.goto C 33 dX0_init_48 (by decide) ?_
        exact ih33 (m0 + 30) M2 (by omega) (by omega) (by omega) (e3.same (hm.1 2 (by decide) (by decide))) (fun d h0 h1 => by
              rw [hm.2.1 d, hm.2.2 d]
              by_cases c : m0 - m0 % 30 ≤ d ∧ d < m0 - m0 % 30 + 30
              · rw [if_pos c, if_pos c]; exact ⟨rfl, rfl⟩
              · rw [if_neg c, if_neg c]; exact e4 d h0 (by omega)) (by omega)
  exact loop33 _ 0 M0 (by omega) (by omega) (by omega) (fun d h0 h1 => by rw [hM0]; rfl) (fun d h0 h1 => by omega) (Nat.lt_succ_self _)
set_option maxHeartbeats 4000000 in
set_option maxRecDepth 100000 in
theorem c_classInit (l : Launch) (D : va_G) (cy : Nat → ClassId) (sa : Nat → Addr) (hfl : l.stackTraces = false) (a0 : Nat) : Ct l D cy sa yX2_init cX2_init 1 none 4 6 2886 ([(a0, .inr (3, [.null, .null, vi 0, .null]))]) [.ref a0] (fun v ws2 => v = none ∧ ∃ (ad : Nat → Nat) (M1 : Nat → Int → Int), ws2 = cl cy (sa 100) ad 0 M1 ∧ ad 0 = a0 ∧ CI (fun _ => false) 0 0 (fun _ _ => 0) (fun _ => 0) (fun _ => 0) M1) no_x := by
  refine Ct.of (own := RX2) (lc := [(0, .ref a0)]) (by decide +kernel) hfl (Nat.le_of_ble_eq_true rfl) rfl rfl ?_
  intro p e s m args below meth c A C hex hnm
  generalize hQ : vx_MQ below (Qo D (fun v ws2 => v = none ∧ ∃ (ad : Nat → Nat) (M1 : Nat → Int → Int), ws2 = cl cy (sa 100) ad 0 M1 ∧ ad 0 = a0 ∧ CI (fun _ => false) 0 0 (fun _ _ => 0) (fun _ => 0) (fun _ => 0) M1) A) (Xo D no_x A) args s 6 2886 A = Q
  replace hQ := hQ.symm
  refine V.aload_n C dX2_init_0 0 rfl ?_
  refine V.objInit C ml_X2_3 dX2_init_1 (by decide) (Nat.le_of_ble_eq_true rfl) ?_
  refine V.aload_n C dX2_init_4 0 rfl ?_
  refine V.new C (Cn := RX0) (T := TX0) (N := 3) (ci := 1) (fs := [.null, .null, .null]) rfl inX0 tyX0 tyX0_ok cl_X2_9 it_X0 in_X0 (by decide) (Nat.le_of_ble_eq_true rfl) (Nat.le_of_ble_eq_true rfl) dX2_init_5 (fun b1 => ?_)
  show V D 1 A p l e (rmL 4 6 2886) s m args below meth c Q 1 3 ([(a0, .inr (3, [.null, .null, vi 0, .null])), (b1, .inr (1, [.null, .null, .null]))]) 8 [(0, .ref a0)] [.ref b1, .ref a0]
  refine V.dup C dX2_init_8 rfl ?_
  refine V.callI C (As := []) (st := [.ref b1, .ref a0]) (wr := [(a0, .inr (3, [.null, .null, vi 0, .null]))]) kI_X2_11 (c_calInit l D cy sa hfl b1) rfl rfl rfl (Nat.le_of_ble_eq_true rfl) ⟨by decide, by decide⟩ ⟨by decide, by decide⟩ dX2_init_9 (fun _ _ h => h.elim) (fun v1 w2 r3 => ?_)
  obtain ⟨rfl, ad, M1, hw2, ha1, hcal⟩ := r3
  rw [hw2, show kl cy ad M1 = [(b1, .inr (1, [.ref (ad 2), .ref (ad 3), .ref (ad 4)])), (ad 2, arZ cy 720 (M1 2)), (ad 3, arI cy 720 (M1 3)), (ad 4, arI cy 720 (M1 4))] by rw [← ha1]; rfl]
  show V D 1 A p l e (rmL 4 6 2886) s m args below meth c Q 4 2163 ([(a0, .inr (3, [.null, .null, vi 0, .null])), (b1, .inr (1, [.ref (ad 2), .ref (ad 3), .ref (ad 4)])), (ad 2, arZ cy 720 (M1 2)), (ad 3, arI cy 720 (M1 3)), (ad 4, arI cy 720 (M1 4))]) 12 [(0, .ref a0)] [.ref b1, .ref a0]
  refine V.putF C (v := .ref b1) (ty := (tyX2 0)) 0 rfl rfl inX2 tyX2 tyX2_ok nmX2 0 (by decide) fl_X2_12 (fun _ h => h) rfl hnm rfl (by decide +kernel) rfl rfl (Nat.le_of_ble_eq_true rfl) dX2_init_12 rfl ?_
  show V D 1 A p l e (rmL 4 6 2886) s m args below meth c Q 4 2163 ([(a0, .inr (3, [.ref b1, .null, vi 0, .null])), (b1, .inr (1, [.ref (ad 2), .ref (ad 3), .ref (ad 4)])), (ad 2, arZ cy 720 (M1 2)), (ad 3, arI cy 720 (M1 3)), (ad 4, arI cy 720 (M1 4))]) 15 [(0, .ref a0)] []
  refine V.aload_n C dX2_init_15 0 rfl ?_
  refine V.new C (Cn := RJx4a65c) (T := TJx4a65c) (N := 3) (ci := 0) (fs := [vi 0, .null, vi 0]) rfl inJx4a65c tyJx4a65c tyJx4a65c_ok cl_X2_16 it_Jx4a65c in_Jx4a65c (by decide) (Nat.le_of_ble_eq_true rfl) (Nat.le_of_ble_eq_true rfl) dX2_init_16 (fun b5 => ?_)
  show V D 1 A p l e (rmL 4 6 2886) s m args below meth c Q 5 2166 ([(a0, .inr (3, [.ref b1, .null, vi 0, .null])), (b1, .inr (1, [.ref (ad 2), .ref (ad 3), .ref (ad 4)])), (ad 2, arZ cy 720 (M1 2)), (ad 3, arI cy 720 (M1 3)), (ad 4, arI cy 720 (M1 4)), (b5, .inr (0, [vi 0, .null, vi 0]))]) 19 [(0, .ref a0)] [.ref b5, .ref a0]
  refine V.dup C dX2_init_19 rfl ?_
  refine V.callI C (As := []) (st := [.ref b5, .ref a0]) (wr := [(a0, .inr (3, [.ref b1, .null, vi 0, .null])), (b1, .inr (1, [.ref (ad 2), .ref (ad 3), .ref (ad 4)])), (ad 2, arZ cy 720 (M1 2)), (ad 3, arI cy 720 (M1 3)), (ad 4, arI cy 720 (M1 4))]) kI_X2_18 (c_listInit l D cy sa hfl b5) rfl rfl rfl (Nat.le_of_ble_eq_true rfl) ⟨by decide, by decide⟩ ⟨by decide, by decide⟩ dX2_init_20 (fun _ _ h => h.elim) (fun v4 w5 r6 => ?_)
  obtain ⟨rfl, hw5⟩ := r6
  rw [hw5]
  show V D 1 A p l e (rmL 4 6 2886) s m args below meth c Q 5 2166 ([(a0, .inr (3, [.ref b1, .null, vi 0, .null])), (b1, .inr (1, [.ref (ad 2), .ref (ad 3), .ref (ad 4)])), (ad 2, arZ cy 720 (M1 2)), (ad 3, arI cy 720 (M1 3)), (ad 4, arI cy 720 (M1 4)), (b5, .inr (0, [vi 0, .ref (sa 100), vi 0]))]) 23 [(0, .ref a0)] [.ref b5, .ref a0]
  refine V.putF C (v := .ref b5) (ty := (tyX2 1)) 0 rfl rfl inX2 tyX2 tyX2_ok nmX2 1 (by decide) fl_X2_19 (fun _ h => h) rfl hnm rfl (by decide +kernel) rfl rfl (Nat.le_of_ble_eq_true rfl) dX2_init_23 rfl ?_
  show V D 1 A p l e (rmL 4 6 2886) s m args below meth c Q 5 2166 ([(a0, .inr (3, [.ref b1, .ref b5, vi 0, .null])), (b1, .inr (1, [.ref (ad 2), .ref (ad 3), .ref (ad 4)])), (ad 2, arZ cy 720 (M1 2)), (ad 3, arI cy 720 (M1 3)), (ad 4, arI cy 720 (M1 4)), (b5, .inr (0, [vi 0, .ref (sa 100), vi 0]))]) 26 [(0, .ref a0)] []
  refine V.aload_n C dX2_init_26 0 rfl ?_
  refine V.iconst C dX2_init_27 ?_
  refine V.putf C (v := vi 0) (ty := .int) 0 rfl rfl inX2 tyX2 tyX2_ok nmX2 2 (by decide) fl_X2_23 (fun _ h => h) rfl (by decide +kernel) rfl rfl (Nat.le_of_ble_eq_true rfl) dX2_init_28 rfl ?_
  show V D 1 A p l e (rmL 4 6 2886) s m args below meth c Q 5 2166 ([(a0, .inr (3, [.ref b1, .ref b5, vi 0, .null])), (b1, .inr (1, [.ref (ad 2), .ref (ad 3), .ref (ad 4)])), (ad 2, arZ cy 720 (M1 2)), (ad 3, arI cy 720 (M1 3)), (ad 4, arI cy 720 (M1 4)), (b5, .inr (0, [vi 0, .ref (sa 100), vi 0]))]) 31 [(0, .ref a0)] []
  refine V.aload_n C dX2_init_31 0 rfl ?_
  refine V.sipush C dX2_init_32 (by decide) ?_
  refine V.newI C 720 (by decide) (by decide) (Nat.le_of_ble_eq_true rfl) (Nat.le_of_ble_eq_true rfl) dX2_init_35 (fun b6 => ?_)
  show V D 1 A p l e (rmL 4 6 2886) s m args below meth c Q 6 2886 ([(a0, .inr (3, [.ref b1, .ref b5, vi 0, .null])), (b1, .inr (1, [.ref (ad 2), .ref (ad 3), .ref (ad 4)])), (ad 2, arZ cy 720 (M1 2)), (ad 3, arI cy 720 (M1 3)), (ad 4, arI cy 720 (M1 4)), (b5, .inr (0, [vi 0, .ref (sa 100), vi 0])), (b6, arI cy 720 (fun _ => 0))]) 37 [(0, .ref a0)] [.ref b6, .ref a0]
  refine V.putF C (v := .ref b6) (ty := (tyX2 3)) 0 rfl rfl inX2 tyX2 tyX2_ok nmX2 3 (by decide) fl_X2_27 (fun _ h => h) rfl hnm rfl (by decide +kernel) rfl rfl (Nat.le_of_ble_eq_true rfl) dX2_init_37 rfl ?_
  show V D 1 A p l e (rmL 4 6 2886) s m args below meth c Q 6 2886 ([(a0, .inr (3, [.ref b1, .ref b5, vi 0, .ref b6])), (b1, .inr (1, [.ref (ad 2), .ref (ad 3), .ref (ad 4)])), (ad 2, arZ cy 720 (M1 2)), (ad 3, arI cy 720 (M1 3)), (ad 4, arI cy 720 (M1 4)), (b5, .inr (0, [vi 0, .ref (sa 100), vi 0])), (b6, arI cy 720 (fun _ => 0))]) 40 [(0, .ref a0)] []
  subst ha1
  rw [hQ]
  exact V.vret C dX2_init_40 (by decide) (by decide) (⟨rfl, fun k => if k = 0 then a0 else if k = 5 then b5 else if k = 6 then b6 else ad k, fun k => if k = 2 then M1 2 else if k = 3 then M1 3 else if k = 4 then M1 4 else fun _ => 0, rfl, rfl, CalI.same (M := M1) hcal rfl rfl rfl, ⟨rfl, by decide, by decide⟩, by decide, fun i hi => absurd hi (Nat.not_lt_zero i)⟩)
