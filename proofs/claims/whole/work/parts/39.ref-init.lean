set_option maxHeartbeats 4000000 in
set_option maxRecDepth 100000 in
theorem c_m_init (l : Launch) (D : va_G) (cy : Nat → ClassId) (sa : Nat → Addr) (hfl : l.stackTraces = false) (a0 : Nat) : Ct l D cy sa yX3_init cX3_init 2 none 1 15 13104 ([(a0, .inr (4, [vi 0, vi 0, .null, vi 0, .null, .null, .null, .null, .null, .null, .null, .null, .null, .null, .null, .null, .null, .null, vi 0]))]) [.ref a0] (fun v ws2 => v = none ∧ ∃ (ad : Nat → Nat) (M1 : Nat → Int → Int), ws2 = ml cy ad M1 ∧ ad 0 = a0 ∧ MI (fun _ => false) 0 0 (fun _ _ => 0) (fun _ => 0) M1) no_x := by
  refine Ct.of (own := RX3) (lc := [(0, .ref a0)]) (by decide +kernel) hfl (Nat.le_of_ble_eq_true rfl) rfl rfl ?_
  intro p e s m args below meth c A C hex hnm
  generalize hQ : vx_MQ below (Qo D (fun v ws2 => v = none ∧ ∃ (ad : Nat → Nat) (M1 : Nat → Int → Int), ws2 = ml cy ad M1 ∧ ad 0 = a0 ∧ MI (fun _ => false) 0 0 (fun _ _ => 0) (fun _ => 0) M1) A) (Xo D no_x A) args s 15 13104 A = Q
  replace hQ := hQ.symm
  refine V.aload_n C dX3_init_0 0 rfl ?_
  refine V.objInit C ml_X3_1 dX3_init_1 (by decide) (Nat.le_of_ble_eq_true rfl) ?_
  refine V.aload_n C dX3_init_4 0 rfl ?_
  refine V.sipush C dX3_init_5 (by decide) ?_
  refine V.newZ C 720 (by decide) (by decide) (Nat.le_of_ble_eq_true rfl) (Nat.le_of_ble_eq_true rfl) dX3_init_8 (fun b2 => ?_)
  show V D 2 A p l e (rmL 1 15 13104) s m args below meth c Q 1 720 ([(a0, .inr (4, [vi 0, vi 0, .null, vi 0, .null, .null, .null, .null, .null, .null, .null, .null, .null, .null, .null, .null, .null, .null, vi 0])), (b2, arZ cy 720 (fun _ => 0))]) 10 [(0, .ref a0)] [.ref b2, .ref a0]
  refine V.putF C (v := .ref b2) (ty := (tyX3 2)) 0 rfl rfl inX3 tyX3 tyX3_ok nmX3 2 (by decide) fl_X3_7 (fun _ h => h) rfl hnm rfl (by decide +kernel) rfl rfl (Nat.le_of_ble_eq_true rfl) dX3_init_10 rfl ?_
  show V D 2 A p l e (rmL 1 15 13104) s m args below meth c Q 1 720 ([(a0, .inr (4, [vi 0, vi 0, .ref b2, vi 0, .null, .null, .null, .null, .null, .null, .null, .null, .null, .null, .null, .null, .null, .null, vi 0])), (b2, arZ cy 720 (fun _ => 0))]) 13 [(0, .ref a0)] []
  refine V.aload_n C dX3_init_13 0 rfl ?_
  refine V.bipush C dX3_init_14 (by decide) ?_
  refine V.newI C 8 (by decide) (by decide) (Nat.le_of_ble_eq_true rfl) (Nat.le_of_ble_eq_true rfl) dX3_init_16 (fun b4 => ?_)
  show V D 2 A p l e (rmL 1 15 13104) s m args below meth c Q 2 728 ([(a0, .inr (4, [vi 0, vi 0, .ref b2, vi 0, .null, .null, .null, .null, .null, .null, .null, .null, .null, .null, .null, .null, .null, .null, vi 0])), (b2, arZ cy 720 (fun _ => 0)), (b4, arI cy 8 (fun _ => 0))]) 18 [(0, .ref a0)] [.ref b4, .ref a0]
  refine V.putF C (v := .ref b4) (ty := (tyX3 4)) 0 rfl rfl inX3 tyX3 tyX3_ok nmX3 4 (by decide) fl_X3_13 (fun _ h => h) rfl hnm rfl (by decide +kernel) rfl rfl (Nat.le_of_ble_eq_true rfl) dX3_init_18 rfl ?_
  show V D 2 A p l e (rmL 1 15 13104) s m args below meth c Q 2 728 ([(a0, .inr (4, [vi 0, vi 0, .ref b2, vi 0, .ref b4, .null, .null, .null, .null, .null, .null, .null, .null, .null, .null, .null, .null, .null, vi 0])), (b2, arZ cy 720 (fun _ => 0)), (b4, arI cy 8 (fun _ => 0))]) 21 [(0, .ref a0)] []
  refine V.aload_n C dX3_init_21 0 rfl ?_
  refine V.bipush C dX3_init_22 (by decide) ?_
  refine V.newI C 8 (by decide) (by decide) (Nat.le_of_ble_eq_true rfl) (Nat.le_of_ble_eq_true rfl) dX3_init_24 (fun b5 => ?_)
  show V D 2 A p l e (rmL 1 15 13104) s m args below meth c Q 3 736 ([(a0, .inr (4, [vi 0, vi 0, .ref b2, vi 0, .ref b4, .null, .null, .null, .null, .null, .null, .null, .null, .null, .null, .null, .null, .null, vi 0])), (b2, arZ cy 720 (fun _ => 0)), (b4, arI cy 8 (fun _ => 0)), (b5, arI cy 8 (fun _ => 0))]) 26 [(0, .ref a0)] [.ref b5, .ref a0]
  refine V.putF C (v := .ref b5) (ty := (tyX3 5)) 0 rfl rfl inX3 tyX3 tyX3_ok nmX3 5 (by decide) fl_X3_17 (fun _ h => h) rfl hnm rfl (by decide +kernel) rfl rfl (Nat.le_of_ble_eq_true rfl) dX3_init_26 rfl ?_
  show V D 2 A p l e (rmL 1 15 13104) s m args below meth c Q 3 736 ([(a0, .inr (4, [vi 0, vi 0, .ref b2, vi 0, .ref b4, .ref b5, .null, .null, .null, .null, .null, .null, .null, .null, .null, .null, .null, .null, vi 0])), (b2, arZ cy 720 (fun _ => 0)), (b4, arI cy 8 (fun _ => 0)), (b5, arI cy 8 (fun _ => 0))]) 29 [(0, .ref a0)] []
  refine V.aload_n C dX3_init_29 0 rfl ?_
  refine V.bipush C dX3_init_30 (by decide) ?_
  refine V.newI C 8 (by decide) (by decide) (Nat.le_of_ble_eq_true rfl) (Nat.le_of_ble_eq_true rfl) dX3_init_32 (fun b6 => ?_)
  show V D 2 A p l e (rmL 1 15 13104) s m args below meth c Q 4 744 ([(a0, .inr (4, [vi 0, vi 0, .ref b2, vi 0, .ref b4, .ref b5, .null, .null, .null, .null, .null, .null, .null, .null, .null, .null, .null, .null, vi 0])), (b2, arZ cy 720 (fun _ => 0)), (b4, arI cy 8 (fun _ => 0)), (b5, arI cy 8 (fun _ => 0)), (b6, arI cy 8 (fun _ => 0))]) 34 [(0, .ref a0)] [.ref b6, .ref a0]
  refine V.putF C (v := .ref b6) (ty := (tyX3 6)) 0 rfl rfl inX3 tyX3 tyX3_ok nmX3 6 (by decide) fl_X3_20 (fun _ h => h) rfl hnm rfl (by decide +kernel) rfl rfl (Nat.le_of_ble_eq_true rfl) dX3_init_34 rfl ?_
  show V D 2 A p l e (rmL 1 15 13104) s m args below meth c Q 4 744 ([(a0, .inr (4, [vi 0, vi 0, .ref b2, vi 0, .ref b4, .ref b5, .ref b6, .null, .null, .null, .null, .null, .null, .null, .null, .null, .null, .null, vi 0])), (b2, arZ cy 720 (fun _ => 0)), (b4, arI cy 8 (fun _ => 0)), (b5, arI cy 8 (fun _ => 0)), (b6, arI cy 8 (fun _ => 0))]) 37 [(0, .ref a0)] []
  refine V.aload_n C dX3_init_37 0 rfl ?_
  refine V.bipush C dX3_init_38 (by decide) ?_
  refine V.newI C 8 (by decide) (by decide) (Nat.le_of_ble_eq_true rfl) (Nat.le_of_ble_eq_true rfl) dX3_init_40 (fun b7 => ?_)
  show V D 2 A p l e (rmL 1 15 13104) s m args below meth c Q 5 752 ([(a0, .inr (4, [vi 0, vi 0, .ref b2, vi 0, .ref b4, .ref b5, .ref b6, .null, .null, .null, .null, .null, .null, .null, .null, .null, .null, .null, vi 0])), (b2, arZ cy 720 (fun _ => 0)), (b4, arI cy 8 (fun _ => 0)), (b5, arI cy 8 (fun _ => 0)), (b6, arI cy 8 (fun _ => 0)), (b7, arI cy 8 (fun _ => 0))]) 42 [(0, .ref a0)] [.ref b7, .ref a0]
  refine V.putF C (v := .ref b7) (ty := (tyX3 7)) 0 rfl rfl inX3 tyX3 tyX3_ok nmX3 7 (by decide) fl_X3_23 (fun _ h => h) rfl hnm rfl (by decide +kernel) rfl rfl (Nat.le_of_ble_eq_true rfl) dX3_init_42 rfl ?_
  show V D 2 A p l e (rmL 1 15 13104) s m args below meth c Q 5 752 ([(a0, .inr (4, [vi 0, vi 0, .ref b2, vi 0, .ref b4, .ref b5, .ref b6, .ref b7, .null, .null, .null, .null, .null, .null, .null, .null, .null, .null, vi 0])), (b2, arZ cy 720 (fun _ => 0)), (b4, arI cy 8 (fun _ => 0)), (b5, arI cy 8 (fun _ => 0)), (b6, arI cy 8 (fun _ => 0)), (b7, arI cy 8 (fun _ => 0))]) 45 [(0, .ref a0)] []
  refine V.aload_n C dX3_init_45 0 rfl ?_
  refine V.bipush C dX3_init_46 (by decide) ?_
  refine V.newI C 8 (by decide) (by decide) (Nat.le_of_ble_eq_true rfl) (Nat.le_of_ble_eq_true rfl) dX3_init_48 (fun b8 => ?_)
  show V D 2 A p l e (rmL 1 15 13104) s m args below meth c Q 6 760 ([(a0, .inr (4, [vi 0, vi 0, .ref b2, vi 0, .ref b4, .ref b5, .ref b6, .ref b7, .null, .null, .null, .null, .null, .null, .null, .null, .null, .null, vi 0])), (b2, arZ cy 720 (fun _ => 0)), (b4, arI cy 8 (fun _ => 0)), (b5, arI cy 8 (fun _ => 0)), (b6, arI cy 8 (fun _ => 0)), (b7, arI cy 8 (fun _ => 0)), (b8, arI cy 8 (fun _ => 0))]) 50 [(0, .ref a0)] [.ref b8, .ref a0]
  refine V.putF C (v := .ref b8) (ty := (tyX3 8)) 0 rfl rfl inX3 tyX3 tyX3_ok nmX3 8 (by decide) fl_X3_26 (fun _ h => h) rfl hnm rfl (by decide +kernel) rfl rfl (Nat.le_of_ble_eq_true rfl) dX3_init_50 rfl ?_
  show V D 2 A p l e (rmL 1 15 13104) s m args below meth c Q 6 760 ([(a0, .inr (4, [vi 0, vi 0, .ref b2, vi 0, .ref b4, .ref b5, .ref b6, .ref b7, .ref b8, .null, .null, .null, .null, .null, .null, .null, .null, .null, vi 0])), (b2, arZ cy 720 (fun _ => 0)), (b4, arI cy 8 (fun _ => 0)), (b5, arI cy 8 (fun _ => 0)), (b6, arI cy 8 (fun _ => 0)), (b7, arI cy 8 (fun _ => 0)), (b8, arI cy 8 (fun _ => 0))]) 53 [(0, .ref a0)] []
  refine V.aload_n C dX3_init_53 0 rfl ?_
  refine V.bipush C dX3_init_54 (by decide) ?_
  refine V.newI C 8 (by decide) (by decide) (Nat.le_of_ble_eq_true rfl) (Nat.le_of_ble_eq_true rfl) dX3_init_56 (fun b9 => ?_)
  show V D 2 A p l e (rmL 1 15 13104) s m args below meth c Q 7 768 ([(a0, .inr (4, [vi 0, vi 0, .ref b2, vi 0, .ref b4, .ref b5, .ref b6, .ref b7, .ref b8, .null, .null, .null, .null, .null, .null, .null, .null, .null, vi 0])), (b2, arZ cy 720 (fun _ => 0)), (b4, arI cy 8 (fun _ => 0)), (b5, arI cy 8 (fun _ => 0)), (b6, arI cy 8 (fun _ => 0)), (b7, arI cy 8 (fun _ => 0)), (b8, arI cy 8 (fun _ => 0)), (b9, arI cy 8 (fun _ => 0))]) 58 [(0, .ref a0)] [.ref b9, .ref a0]
  refine V.putF C (v := .ref b9) (ty := (tyX3 9)) 0 rfl rfl inX3 tyX3 tyX3_ok nmX3 9 (by decide) fl_X3_29 (fun _ h => h) rfl hnm rfl (by decide +kernel) rfl rfl (Nat.le_of_ble_eq_true rfl) dX3_init_58 rfl ?_
  show V D 2 A p l e (rmL 1 15 13104) s m args below meth c Q 7 768 ([(a0, .inr (4, [vi 0, vi 0, .ref b2, vi 0, .ref b4, .ref b5, .ref b6, .ref b7, .ref b8, .ref b9, .null, .null, .null, .null, .null, .null, .null, .null, vi 0])), (b2, arZ cy 720 (fun _ => 0)), (b4, arI cy 8 (fun _ => 0)), (b5, arI cy 8 (fun _ => 0)), (b6, arI cy 8 (fun _ => 0)), (b7, arI cy 8 (fun _ => 0)), (b8, arI cy 8 (fun _ => 0)), (b9, arI cy 8 (fun _ => 0))]) 61 [(0, .ref a0)] []
  refine V.aload_n C dX3_init_61 0 rfl ?_
  refine V.bipush C dX3_init_62 (by decide) ?_
  refine V.newI C 8 (by decide) (by decide) (Nat.le_of_ble_eq_true rfl) (Nat.le_of_ble_eq_true rfl) dX3_init_64 (fun b10 => ?_)
  show V D 2 A p l e (rmL 1 15 13104) s m args below meth c Q 8 776 ([(a0, .inr (4, [vi 0, vi 0, .ref b2, vi 0, .ref b4, .ref b5, .ref b6, .ref b7, .ref b8, .ref b9, .null, .null, .null, .null, .null, .null, .null, .null, vi 0])), (b2, arZ cy 720 (fun _ => 0)), (b4, arI cy 8 (fun _ => 0)), (b5, arI cy 8 (fun _ => 0)), (b6, arI cy 8 (fun _ => 0)), (b7, arI cy 8 (fun _ => 0)), (b8, arI cy 8 (fun _ => 0)), (b9, arI cy 8 (fun _ => 0)), (b10, arI cy 8 (fun _ => 0))]) 66 [(0, .ref a0)] [.ref b10, .ref a0]
  refine V.putF C (v := .ref b10) (ty := (tyX3 10)) 0 rfl rfl inX3 tyX3 tyX3_ok nmX3 10 (by decide) fl_X3_32 (fun _ h => h) rfl hnm rfl (by decide +kernel) rfl rfl (Nat.le_of_ble_eq_true rfl) dX3_init_66 rfl ?_
  show V D 2 A p l e (rmL 1 15 13104) s m args below meth c Q 8 776 ([(a0, .inr (4, [vi 0, vi 0, .ref b2, vi 0, .ref b4, .ref b5, .ref b6, .ref b7, .ref b8, .ref b9, .ref b10, .null, .null, .null, .null, .null, .null, .null, vi 0])), (b2, arZ cy 720 (fun _ => 0)), (b4, arI cy 8 (fun _ => 0)), (b5, arI cy 8 (fun _ => 0)), (b6, arI cy 8 (fun _ => 0)), (b7, arI cy 8 (fun _ => 0)), (b8, arI cy 8 (fun _ => 0)), (b9, arI cy 8 (fun _ => 0)), (b10, arI cy 8 (fun _ => 0))]) 69 [(0, .ref a0)] []
  refine V.aload_n C dX3_init_69 0 rfl ?_
  refine V.bipush C dX3_init_70 (by decide) ?_
  refine V.newI C 8 (by decide) (by decide) (Nat.le_of_ble_eq_true rfl) (Nat.le_of_ble_eq_true rfl) dX3_init_72 (fun b11 => ?_)
  show V D 2 A p l e (rmL 1 15 13104) s m args below meth c Q 9 784 ([(a0, .inr (4, [vi 0, vi 0, .ref b2, vi 0, .ref b4, .ref b5, .ref b6, .ref b7, .ref b8, .ref b9, .ref b10, .null, .null, .null, .null, .null, .null, .null, vi 0])), (b2, arZ cy 720 (fun _ => 0)), (b4, arI cy 8 (fun _ => 0)), (b5, arI cy 8 (fun _ => 0)), (b6, arI cy 8 (fun _ => 0)), (b7, arI cy 8 (fun _ => 0)), (b8, arI cy 8 (fun _ => 0)), (b9, arI cy 8 (fun _ => 0)), (b10, arI cy 8 (fun _ => 0)), (b11, arI cy 8 (fun _ => 0))]) 74 [(0, .ref a0)] [.ref b11, .ref a0]
  refine V.putF C (v := .ref b11) (ty := (tyX3 11)) 0 rfl rfl inX3 tyX3 tyX3_ok nmX3 11 (by decide) fl_X3_35 (fun _ h => h) rfl hnm rfl (by decide +kernel) rfl rfl (Nat.le_of_ble_eq_true rfl) dX3_init_74 rfl ?_
  show V D 2 A p l e (rmL 1 15 13104) s m args below meth c Q 9 784 ([(a0, .inr (4, [vi 0, vi 0, .ref b2, vi 0, .ref b4, .ref b5, .ref b6, .ref b7, .ref b8, .ref b9, .ref b10, .ref b11, .null, .null, .null, .null, .null, .null, vi 0])), (b2, arZ cy 720 (fun _ => 0)), (b4, arI cy 8 (fun _ => 0)), (b5, arI cy 8 (fun _ => 0)), (b6, arI cy 8 (fun _ => 0)), (b7, arI cy 8 (fun _ => 0)), (b8, arI cy 8 (fun _ => 0)), (b9, arI cy 8 (fun _ => 0)), (b10, arI cy 8 (fun _ => 0)), (b11, arI cy 8 (fun _ => 0))]) 77 [(0, .ref a0)] []
  refine V.aload_n C dX3_init_77 0 rfl ?_
  refine V.bipush C dX3_init_78 (by decide) ?_
  refine V.newZ C 64 (by decide) (by decide) (Nat.le_of_ble_eq_true rfl) (Nat.le_of_ble_eq_true rfl) dX3_init_80 (fun b12 => ?_)
  show V D 2 A p l e (rmL 1 15 13104) s m args below meth c Q 10 848 ([(a0, .inr (4, [vi 0, vi 0, .ref b2, vi 0, .ref b4, .ref b5, .ref b6, .ref b7, .ref b8, .ref b9, .ref b10, .ref b11, .null, .null, .null, .null, .null, .null, vi 0])), (b2, arZ cy 720 (fun _ => 0)), (b4, arI cy 8 (fun _ => 0)), (b5, arI cy 8 (fun _ => 0)), (b6, arI cy 8 (fun _ => 0)), (b7, arI cy 8 (fun _ => 0)), (b8, arI cy 8 (fun _ => 0)), (b9, arI cy 8 (fun _ => 0)), (b10, arI cy 8 (fun _ => 0)), (b11, arI cy 8 (fun _ => 0)), (b12, arZ cy 64 (fun _ => 0))]) 82 [(0, .ref a0)] [.ref b12, .ref a0]
  refine V.putF C (v := .ref b12) (ty := (tyX3 12)) 0 rfl rfl inX3 tyX3 tyX3_ok nmX3 12 (by decide) fl_X3_38 (fun _ h => h) rfl hnm rfl (by decide +kernel) rfl rfl (Nat.le_of_ble_eq_true rfl) dX3_init_82 rfl ?_
  show V D 2 A p l e (rmL 1 15 13104) s m args below meth c Q 10 848 ([(a0, .inr (4, [vi 0, vi 0, .ref b2, vi 0, .ref b4, .ref b5, .ref b6, .ref b7, .ref b8, .ref b9, .ref b10, .ref b11, .ref b12, .null, .null, .null, .null, .null, vi 0])), (b2, arZ cy 720 (fun _ => 0)), (b4, arI cy 8 (fun _ => 0)), (b5, arI cy 8 (fun _ => 0)), (b6, arI cy 8 (fun _ => 0)), (b7, arI cy 8 (fun _ => 0)), (b8, arI cy 8 (fun _ => 0)), (b9, arI cy 8 (fun _ => 0)), (b10, arI cy 8 (fun _ => 0)), (b11, arI cy 8 (fun _ => 0)), (b12, arZ cy 64 (fun _ => 0))]) 85 [(0, .ref a0)] []
  refine V.aload_n C dX3_init_85 0 rfl ?_
  refine V.sipush C dX3_init_86 (by decide) ?_
  refine V.newZ C 5760 (by decide) (by decide) (Nat.le_of_ble_eq_true rfl) (Nat.le_of_ble_eq_true rfl) dX3_init_89 (fun b13 => ?_)
  show V D 2 A p l e (rmL 1 15 13104) s m args below meth c Q 11 6608 ([(a0, .inr (4, [vi 0, vi 0, .ref b2, vi 0, .ref b4, .ref b5, .ref b6, .ref b7, .ref b8, .ref b9, .ref b10, .ref b11, .ref b12, .null, .null, .null, .null, .null, vi 0])), (b2, arZ cy 720 (fun _ => 0)), (b4, arI cy 8 (fun _ => 0)), (b5, arI cy 8 (fun _ => 0)), (b6, arI cy 8 (fun _ => 0)), (b7, arI cy 8 (fun _ => 0)), (b8, arI cy 8 (fun _ => 0)), (b9, arI cy 8 (fun _ => 0)), (b10, arI cy 8 (fun _ => 0)), (b11, arI cy 8 (fun _ => 0)), (b12, arZ cy 64 (fun _ => 0)), (b13, arZ cy 5760 (fun _ => 0))]) 91 [(0, .ref a0)] [.ref b13, .ref a0]
  refine V.putF C (v := .ref b13) (ty := (tyX3 13)) 0 rfl rfl inX3 tyX3 tyX3_ok nmX3 13 (by decide) fl_X3_41 (fun _ h => h) rfl hnm rfl (by decide +kernel) rfl rfl (Nat.le_of_ble_eq_true rfl) dX3_init_91 rfl ?_
  show V D 2 A p l e (rmL 1 15 13104) s m args below meth c Q 11 6608 ([(a0, .inr (4, [vi 0, vi 0, .ref b2, vi 0, .ref b4, .ref b5, .ref b6, .ref b7, .ref b8, .ref b9, .ref b10, .ref b11, .ref b12, .ref b13, .null, .null, .null, .null, vi 0])), (b2, arZ cy 720 (fun _ => 0)), (b4, arI cy 8 (fun _ => 0)), (b5, arI cy 8 (fun _ => 0)), (b6, arI cy 8 (fun _ => 0)), (b7, arI cy 8 (fun _ => 0)), (b8, arI cy 8 (fun _ => 0)), (b9, arI cy 8 (fun _ => 0)), (b10, arI cy 8 (fun _ => 0)), (b11, arI cy 8 (fun _ => 0)), (b12, arZ cy 64 (fun _ => 0)), (b13, arZ cy 5760 (fun _ => 0))]) 94 [(0, .ref a0)] []
  refine V.aload_n C dX3_init_94 0 rfl ?_
  refine V.sipush C dX3_init_95 (by decide) ?_
  refine V.newI C 5760 (by decide) (by decide) (Nat.le_of_ble_eq_true rfl) (Nat.le_of_ble_eq_true rfl) dX3_init_98 (fun b14 => ?_)
  show V D 2 A p l e (rmL 1 15 13104) s m args below meth c Q 12 12368 ([(a0, .inr (4, [vi 0, vi 0, .ref b2, vi 0, .ref b4, .ref b5, .ref b6, .ref b7, .ref b8, .ref b9, .ref b10, .ref b11, .ref b12, .ref b13, .null, .null, .null, .null, vi 0])), (b2, arZ cy 720 (fun _ => 0)), (b4, arI cy 8 (fun _ => 0)), (b5, arI cy 8 (fun _ => 0)), (b6, arI cy 8 (fun _ => 0)), (b7, arI cy 8 (fun _ => 0)), (b8, arI cy 8 (fun _ => 0)), (b9, arI cy 8 (fun _ => 0)), (b10, arI cy 8 (fun _ => 0)), (b11, arI cy 8 (fun _ => 0)), (b12, arZ cy 64 (fun _ => 0)), (b13, arZ cy 5760 (fun _ => 0)), (b14, arI cy 5760 (fun _ => 0))]) 100 [(0, .ref a0)] [.ref b14, .ref a0]
  refine V.putF C (v := .ref b14) (ty := (tyX3 14)) 0 rfl rfl inX3 tyX3 tyX3_ok nmX3 14 (by decide) fl_X3_44 (fun _ h => h) rfl hnm rfl (by decide +kernel) rfl rfl (Nat.le_of_ble_eq_true rfl) dX3_init_100 rfl ?_
  show V D 2 A p l e (rmL 1 15 13104) s m args below meth c Q 12 12368 ([(a0, .inr (4, [vi 0, vi 0, .ref b2, vi 0, .ref b4, .ref b5, .ref b6, .ref b7, .ref b8, .ref b9, .ref b10, .ref b11, .ref b12, .ref b13, .ref b14, .null, .null, .null, vi 0])), (b2, arZ cy 720 (fun _ => 0)), (b4, arI cy 8 (fun _ => 0)), (b5, arI cy 8 (fun _ => 0)), (b6, arI cy 8 (fun _ => 0)), (b7, arI cy 8 (fun _ => 0)), (b8, arI cy 8 (fun _ => 0)), (b9, arI cy 8 (fun _ => 0)), (b10, arI cy 8 (fun _ => 0)), (b11, arI cy 8 (fun _ => 0)), (b12, arZ cy 64 (fun _ => 0)), (b13, arZ cy 5760 (fun _ => 0)), (b14, arI cy 5760 (fun _ => 0))]) 103 [(0, .ref a0)] []
  refine V.aload_n C dX3_init_103 0 rfl ?_
  refine V.bipush C dX3_init_104 (by decide) ?_
  refine V.newI C 8 (by decide) (by decide) (Nat.le_of_ble_eq_true rfl) (Nat.le_of_ble_eq_true rfl) dX3_init_106 (fun b15 => ?_)
  show V D 2 A p l e (rmL 1 15 13104) s m args below meth c Q 13 12376 ([(a0, .inr (4, [vi 0, vi 0, .ref b2, vi 0, .ref b4, .ref b5, .ref b6, .ref b7, .ref b8, .ref b9, .ref b10, .ref b11, .ref b12, .ref b13, .ref b14, .null, .null, .null, vi 0])), (b2, arZ cy 720 (fun _ => 0)), (b4, arI cy 8 (fun _ => 0)), (b5, arI cy 8 (fun _ => 0)), (b6, arI cy 8 (fun _ => 0)), (b7, arI cy 8 (fun _ => 0)), (b8, arI cy 8 (fun _ => 0)), (b9, arI cy 8 (fun _ => 0)), (b10, arI cy 8 (fun _ => 0)), (b11, arI cy 8 (fun _ => 0)), (b12, arZ cy 64 (fun _ => 0)), (b13, arZ cy 5760 (fun _ => 0)), (b14, arI cy 5760 (fun _ => 0)), (b15, arI cy 8 (fun _ => 0))]) 108 [(0, .ref a0)] [.ref b15, .ref a0]
  refine V.putF C (v := .ref b15) (ty := (tyX3 15)) 0 rfl rfl inX3 tyX3 tyX3_ok nmX3 15 (by decide) fl_X3_47 (fun _ h => h) rfl hnm rfl (by decide +kernel) rfl rfl (Nat.le_of_ble_eq_true rfl) dX3_init_108 rfl ?_
  show V D 2 A p l e (rmL 1 15 13104) s m args below meth c Q 13 12376 ([(a0, .inr (4, [vi 0, vi 0, .ref b2, vi 0, .ref b4, .ref b5, .ref b6, .ref b7, .ref b8, .ref b9, .ref b10, .ref b11, .ref b12, .ref b13, .ref b14, .ref b15, .null, .null, vi 0])), (b2, arZ cy 720 (fun _ => 0)), (b4, arI cy 8 (fun _ => 0)), (b5, arI cy 8 (fun _ => 0)), (b6, arI cy 8 (fun _ => 0)), (b7, arI cy 8 (fun _ => 0)), (b8, arI cy 8 (fun _ => 0)), (b9, arI cy 8 (fun _ => 0)), (b10, arI cy 8 (fun _ => 0)), (b11, arI cy 8 (fun _ => 0)), (b12, arZ cy 64 (fun _ => 0)), (b13, arZ cy 5760 (fun _ => 0)), (b14, arI cy 5760 (fun _ => 0)), (b15, arI cy 8 (fun _ => 0))]) 111 [(0, .ref a0)] []
  refine V.aload_n C dX3_init_111 0 rfl ?_
  refine V.bipush C dX3_init_112 (by decide) ?_
  refine V.newI C 8 (by decide) (by decide) (Nat.le_of_ble_eq_true rfl) (Nat.le_of_ble_eq_true rfl) dX3_init_114 (fun b16 => ?_)
  show V D 2 A p l e (rmL 1 15 13104) s m args below meth c Q 14 12384 ([(a0, .inr (4, [vi 0, vi 0, .ref b2, vi 0, .ref b4, .ref b5, .ref b6, .ref b7, .ref b8, .ref b9, .ref b10, .ref b11, .ref b12, .ref b13, .ref b14, .ref b15, .null, .null, vi 0])), (b2, arZ cy 720 (fun _ => 0)), (b4, arI cy 8 (fun _ => 0)), (b5, arI cy 8 (fun _ => 0)), (b6, arI cy 8 (fun _ => 0)), (b7, arI cy 8 (fun _ => 0)), (b8, arI cy 8 (fun _ => 0)), (b9, arI cy 8 (fun _ => 0)), (b10, arI cy 8 (fun _ => 0)), (b11, arI cy 8 (fun _ => 0)), (b12, arZ cy 64 (fun _ => 0)), (b13, arZ cy 5760 (fun _ => 0)), (b14, arI cy 5760 (fun _ => 0)), (b15, arI cy 8 (fun _ => 0)), (b16, arI cy 8 (fun _ => 0))]) 116 [(0, .ref a0)] [.ref b16, .ref a0]
  refine V.putF C (v := .ref b16) (ty := (tyX3 16)) 0 rfl rfl inX3 tyX3 tyX3_ok nmX3 16 (by decide) fl_X3_50 (fun _ h => h) rfl hnm rfl (by decide +kernel) rfl rfl (Nat.le_of_ble_eq_true rfl) dX3_init_116 rfl ?_
  show V D 2 A p l e (rmL 1 15 13104) s m args below meth c Q 14 12384 ([(a0, .inr (4, [vi 0, vi 0, .ref b2, vi 0, .ref b4, .ref b5, .ref b6, .ref b7, .ref b8, .ref b9, .ref b10, .ref b11, .ref b12, .ref b13, .ref b14, .ref b15, .ref b16, .null, vi 0])), (b2, arZ cy 720 (fun _ => 0)), (b4, arI cy 8 (fun _ => 0)), (b5, arI cy 8 (fun _ => 0)), (b6, arI cy 8 (fun _ => 0)), (b7, arI cy 8 (fun _ => 0)), (b8, arI cy 8 (fun _ => 0)), (b9, arI cy 8 (fun _ => 0)), (b10, arI cy 8 (fun _ => 0)), (b11, arI cy 8 (fun _ => 0)), (b12, arZ cy 64 (fun _ => 0)), (b13, arZ cy 5760 (fun _ => 0)), (b14, arI cy 5760 (fun _ => 0)), (b15, arI cy 8 (fun _ => 0)), (b16, arI cy 8 (fun _ => 0))]) 119 [(0, .ref a0)] []
  refine V.aload_n C dX3_init_119 0 rfl ?_
  refine V.sipush C dX3_init_120 (by decide) ?_
  refine V.newI C 720 (by decide) (by decide) (Nat.le_of_ble_eq_true rfl) (Nat.le_of_ble_eq_true rfl) dX3_init_123 (fun b17 => ?_)
  show V D 2 A p l e (rmL 1 15 13104) s m args below meth c Q 15 13104 ([(a0, .inr (4, [vi 0, vi 0, .ref b2, vi 0, .ref b4, .ref b5, .ref b6, .ref b7, .ref b8, .ref b9, .ref b10, .ref b11, .ref b12, .ref b13, .ref b14, .ref b15, .ref b16, .null, vi 0])), (b2, arZ cy 720 (fun _ => 0)), (b4, arI cy 8 (fun _ => 0)), (b5, arI cy 8 (fun _ => 0)), (b6, arI cy 8 (fun _ => 0)), (b7, arI cy 8 (fun _ => 0)), (b8, arI cy 8 (fun _ => 0)), (b9, arI cy 8 (fun _ => 0)), (b10, arI cy 8 (fun _ => 0)), (b11, arI cy 8 (fun _ => 0)), (b12, arZ cy 64 (fun _ => 0)), (b13, arZ cy 5760 (fun _ => 0)), (b14, arI cy 5760 (fun _ => 0)), (b15, arI cy 8 (fun _ => 0)), (b16, arI cy 8 (fun _ => 0)), (b17, arI cy 720 (fun _ => 0))]) 125 [(0, .ref a0)] [.ref b17, .ref a0]
  refine V.putF C (v := .ref b17) (ty := (tyX3 17)) 0 rfl rfl inX3 tyX3 tyX3_ok nmX3 17 (by decide) fl_X3_53 (fun _ h => h) rfl hnm rfl (by decide +kernel) rfl rfl (Nat.le_of_ble_eq_true rfl) dX3_init_125 rfl ?_
  show V D 2 A p l e (rmL 1 15 13104) s m args below meth c Q 15 13104 ([(a0, .inr (4, [vi 0, vi 0, .ref b2, vi 0, .ref b4, .ref b5, .ref b6, .ref b7, .ref b8, .ref b9, .ref b10, .ref b11, .ref b12, .ref b13, .ref b14, .ref b15, .ref b16, .ref b17, vi 0])), (b2, arZ cy 720 (fun _ => 0)), (b4, arI cy 8 (fun _ => 0)), (b5, arI cy 8 (fun _ => 0)), (b6, arI cy 8 (fun _ => 0)), (b7, arI cy 8 (fun _ => 0)), (b8, arI cy 8 (fun _ => 0)), (b9, arI cy 8 (fun _ => 0)), (b10, arI cy 8 (fun _ => 0)), (b11, arI cy 8 (fun _ => 0)), (b12, arZ cy 64 (fun _ => 0)), (b13, arZ cy 5760 (fun _ => 0)), (b14, arI cy 5760 (fun _ => 0)), (b15, arI cy 8 (fun _ => 0)), (b16, arI cy 8 (fun _ => 0)), (b17, arI cy 720 (fun _ => 0))]) 128 [(0, .ref a0)] []
  obtain ⟨ad, had⟩ : ∃ y : Nat → Nat, y = fun k => if k = 0 then a0 else if k = 2 then b2 else if k = 4 then b4 else if k = 5 then b5 else if k = 6 then b6 else if k = 7 then b7 else if k = 8 then b8 else if k = 9 then b9 else if k = 10 then b10 else if k = 11 then b11 else if k = 12 then b12 else if k = 13 then b13 else if k = 14 then b14 else if k = 15 then b15 else if k = 16 then b16 else b17 := ⟨_, rfl⟩
  have e0 : ad 0 = a0 := by rw [had]; rfl
  have e2 : ad 2 = b2 := by rw [had]; rfl
  have e4 : ad 4 = b4 := by rw [had]; rfl
  have e5 : ad 5 = b5 := by rw [had]; rfl
  have e6 : ad 6 = b6 := by rw [had]; rfl
  have e7 : ad 7 = b7 := by rw [had]; rfl
  have e8 : ad 8 = b8 := by rw [had]; rfl
  have e9 : ad 9 = b9 := by rw [had]; rfl
  have e10 : ad 10 = b10 := by rw [had]; rfl
  have e11 : ad 11 = b11 := by rw [had]; rfl
  have e12 : ad 12 = b12 := by rw [had]; rfl
  have e13 : ad 13 = b13 := by rw [had]; rfl
  have e14 : ad 14 = b14 := by rw [had]; rfl
  have e15 : ad 15 = b15 := by rw [had]; rfl
  have e16 : ad 16 = b16 := by rw [had]; rfl
  have e17 : ad 17 = b17 := by rw [had]; rfl
  clear had
  subst e0 e2 e4 e5 e6 e7 e8 e9 e10 e11 e12 e13 e14 e15 e16 e17
  obtain ⟨M0, hM0⟩ : ∃ y : Nat → Int → Int, y = fun _ _ => 0 := ⟨_, rfl⟩
  rw [show [((ad 0), .inr (4, [vi 0, vi 0, .ref (ad 2), vi 0, .ref (ad 4), .ref (ad 5), .ref (ad 6), .ref (ad 7), .ref (ad 8), .ref (ad 9), .ref (ad 10), .ref (ad 11), .ref (ad 12), .ref (ad 13), .ref (ad 14), .ref (ad 15), .ref (ad 16), .ref (ad 17), vi 0])), ((ad 2), arZ cy 720 (fun _ => 0)), ((ad 4), arI cy 8 (fun _ => 0)), ((ad 5), arI cy 8 (fun _ => 0)), ((ad 6), arI cy 8 (fun _ => 0)), ((ad 7), arI cy 8 (fun _ => 0)), ((ad 8), arI cy 8 (fun _ => 0)), ((ad 9), arI cy 8 (fun _ => 0)), ((ad 10), arI cy 8 (fun _ => 0)), ((ad 11), arI cy 8 (fun _ => 0)), ((ad 12), arZ cy 64 (fun _ => 0)), ((ad 13), arZ cy 5760 (fun _ => 0)), ((ad 14), arI cy 5760 (fun _ => 0)), ((ad 15), arI cy 8 (fun _ => 0)), ((ad 16), arI cy 8 (fun _ => 0)), ((ad 17), arI cy 720 (fun _ => 0))] = ml cy ad M0 by rw [hM0]; rfl]
  show V D 2 A p l e (rmL 1 15 13104) s m args below meth c Q 15 13104 (ml cy ad M0) 128 [(0, .ref (ad 0))] []
  refine V.iconst C dX3_init_128 ?_
  refine V.istore_n C (lc2 := [(1, vi 0), (0, .ref (ad 0))]) dX3_init_129 (by decide) rfl ?_
  have loop130 : ∀ (fz : Nat) (r : Int) (M1 : Nat → Int → Int), (0 ≤ r) → (r ≤ 8) → (∀ k, k ≠ 11 → M1 k = M0 k) → (∀ y : Int, 0 ≤ y → y < r → M1 11 y = -1) → ((8 - r).toNat < fz) → V D 2 A p l e (rmL 1 15 13104) s m args below meth c Q 15 13104 (ml cy ad M1) 130 [(1, vi r), (0, .ref (ad 0))] [] := by
    intro fz
    induction fz with
    | zero => intro r M1 e0 e1 e2 e3 hf; exact absurd hf (Nat.not_lt_zero _)
    | succ fz ih130 =>
      intro r M1 e0 e1 e2 e3 hf130
      refine V.iload_n C dX3_init_130 0 rfl ?_
      refine V.bipush C dX3_init_131 (by decide) ?_
      refine V.icmp_ge C 149 dX3_init_133 (by decide) ⟨by omega, by omega⟩ ⟨by decide, by decide⟩ (fun h133 => ?_) (fun h133 => ?_)
      · skip
        rw [hQ]
        exact V.vret C dX3_init_149 (by decide) (by decide) (⟨rfl, ad, M1, rfl, rfl, fun d h0 h1 => by rw [e2 2 (by decide), hM0]; rfl, ⟨by rw [e2 0 (by decide), hM0], by decide, by decide⟩, ⟨by rw [e2 0 (by decide), hM0]; rfl, by decide⟩, fun x x0 x1 => absurd x1 (by simp; omega), fun x x0 x1 => ⟨by rw [e2 10 (by decide), hM0], e3 x (by simpa using x0) (by omega)⟩, fun i j i0 i1 j0 j1 => by rw [e2 12 (by decide), hM0, rqb, decide_eq_false (show ¬ i < ((0 : Nat) : Int) by simp; omega)]; rfl⟩)
      · skip
        refine V.aload_n C dX3_init_136 1 rfl ?_
        refine V.getf C (v := .ref (ad 11)) 0 rfl rfl inX3 11 (by decide) fl_X3_35 (fun _ h => h) rfl dX3_init_137 ?_
        refine V.iload_n C dX3_init_140 0 rfl ?_
        refine V.iconst C dX3_init_141 ?_
        refine V.iast C 9 rfl (by omega) (by omega) (by decide) dX3_init_142 (mput_11 (by omega)) ?_
        refine V.iinc C (lc2 := [(1, vi (r + 1)), (0, .ref (ad 0))]) dX3_init_143 0 rfl (by decide) rfl ?_
        refine V.goto C 130 dX3_init_146 (by decide) ?_
        exact ih130 (r + 1) (upM M1 11 r (-1)) (by omega) (by omega) (fun k hk => (upM_off hk).trans (e2 k hk)) (fun y y0 y1 => by
              by_cases c : y = r
              · rw [c]; exact upM_s _ _ _ _
              · rw [upM_n (Or.inr c)]; exact e3 y y0 (by omega)) (by omega)
  exact loop130 _ 0 M0 (by omega) (by omega) (fun _ _ => rfl) (fun y _ _ => by omega) (Nat.lt_succ_self _)
