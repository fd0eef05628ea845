set_option maxHeartbeats 4000000 in
set_option maxRecDepth 100000 in
theorem c_grow2 (l : Launch) (D : va_G) (cy : Nat → ClassId) (sa : Nat → Addr) (hfl : l.stackTraces = false) (b5 xr : Nat) (fs : List Value) (m0 : Int) : Ct l D cy sa yJx4a65c_grow_92f84 cJx4a65c_grow_92f84 4 (some (.array (.object "java/lang/Object"))) 2 1 10 ([(b5, .inr (0, [vi m0, .ref (sa 100), vi 0])), (xr, .inr (2, fs))]) [.ref b5, vi 1] (fun v ws2 => ∃ b7, v = some (.ref b7) ∧ ws2 = [(b5, .inr (0, [vi m0, .ref b7, vi 0])), (xr, .inr (2, fs)), (b7, .inl (cy 2, 10, .inr (.inr (.inr (.inr (fun _ => none))))))]) no_x := by
  refine Ct.of (own := RJx4a65c) (lc := [(0, .ref b5), (1, vi 1)]) (by decide +kernel) hfl (Nat.le_of_ble_eq_true rfl) rfl rfl ?_
  intro p e s m args below meth c A C hex hnm
  generalize hQ : vx_MQ below (Qo D (fun v ws2 => ∃ b7, v = some (.ref b7) ∧ ws2 = [(b5, .inr (0, [vi m0, .ref b7, vi 0])), (xr, .inr (2, fs)), (b7, .inl (cy 2, 10, .inr (.inr (.inr (.inr (fun _ => none))))))]) A) (Xo D no_x A) args s 1 10 A = Q
  replace hQ := hQ.symm
  refine V.aload_n C dJx4a65c_grow_92f84_0 0 rfl ?_
  refine V.getf C (v := .ref (sa 100)) 0 rfl rfl inJx4a65c 1 (by decide) fl_Jx4a65c_9 (fun _ h => h) rfl dJx4a65c_grow_92f84_1 ?_
  refine V.slen C dJx4a65c_grow_92f84_4 ?_
  refine V.istore_n C (lc2 := [(2, vi 0), (0, .ref b5), (1, vi 1)]) dJx4a65c_grow_92f84_5 (by decide) rfl ?_
  refine V.iload_n C dJx4a65c_grow_92f84_6 0 rfl ?_
  refine V.if_gt C 20 dJx4a65c_grow_92f84_7 (by decide) ⟨by decide, by decide⟩ (fun h7 => (by exfalso; omega)) (fun h7 => ?_)
  refine V.aload_n C dJx4a65c_grow_92f84_10 1 rfl ?_
  refine V.getf C (v := .ref (sa 100)) 0 rfl rfl inJx4a65c 1 (by decide) fl_Jx4a65c_9 (fun _ h => h) rfl dJx4a65c_grow_92f84_11 ?_
  refine V.gets C dJx4a65c_grow_92f84_14 ?_
  refine V.acmpE C 45 dJx4a65c_grow_92f84_17 (by decide) ?_
  refine V.aload_n C dJx4a65c_grow_92f84_45 1 rfl ?_
  refine V.bipush C dJx4a65c_grow_92f84_46 (by decide) ?_
  refine V.iload_n C dJx4a65c_grow_92f84_48 2 rfl ?_
  refine V.mmax C ml_Jx4a65c_79 (by decide) (Nat.le_of_ble_eq_true rfl) (by decide) (by decide) ⟨by decide, by decide⟩ ⟨by decide, by decide⟩ dJx4a65c_grow_92f84_49 ?_
  refine V.anew C 10 (by decide) (by decide) cl_Jx4a65c_7 (by decide) (by decide) dJx4a65c_grow_92f84_52 (fun b7 => ?_)
  show V D 4 A p l e (rmL 2 1 10) s m args below meth c Q 1 10 ([(b5, .inr (0, [vi m0, .ref (sa 100), vi 0])), (xr, .inr (2, fs)), (b7, .inl (cy 2, 10, .inr (.inr (.inr (.inr (fun _ => none))))))]) 55 [(2, vi 0), (0, .ref b5), (1, vi 1)] [.ref b7, .ref b5]
  refine V.dup_x1 C dJx4a65c_grow_92f84_55 rfl rfl ?_
  refine V.putf C (v := .ref b7) (ty := (tyJx4a65c 1)) 0 rfl rfl inJx4a65c tyJx4a65c tyJx4a65c_ok nmJx4a65c 1 (by decide) fl_Jx4a65c_9 (fun _ h => h) rfl (by decide +kernel) rfl rfl (Nat.le_of_ble_eq_true rfl) dJx4a65c_grow_92f84_56 rfl ?_
  show V D 4 A p l e (rmL 2 1 10) s m args below meth c Q 1 10 ([(b5, .inr (0, [vi m0, .ref b7, vi 0])), (xr, .inr (2, fs)), (b7, .inl (cy 2, 10, .inr (.inr (.inr (.inr (fun _ => none))))))]) 59 [(2, vi 0), (0, .ref b5), (1, vi 1)] [.ref b7]
  rw [hQ]
  exact V.aret C (Or.inr ⟨_, rfl⟩) dJx4a65c_grow_92f84_59 (by decide) (by decide) (⟨b7, rfl, rfl⟩)
set_option maxHeartbeats 4000000 in
set_option maxRecDepth 100000 in
theorem c_grow1 (l : Launch) (D : va_G) (cy : Nat → ClassId) (sa : Nat → Addr) (hfl : l.stackTraces = false) (b5 xr : Nat) (fs : List Value) (m0 : Int) : Ct l D cy sa yJx4a65c_grow_d5877 cJx4a65c_grow_d5877 1 (some (.array (.object "java/lang/Object"))) 3 1 10 ([(b5, .inr (0, [vi m0, .ref (sa 100), vi 0])), (xr, .inr (2, fs))]) [.ref b5] (fun v ws2 => ∃ b7, v = some (.ref b7) ∧ ws2 = [(b5, .inr (0, [vi m0, .ref b7, vi 0])), (xr, .inr (2, fs)), (b7, .inl (cy 2, 10, .inr (.inr (.inr (.inr (fun _ => none))))))]) no_x := by
  refine Ct.of (own := RJx4a65c) (lc := [(0, .ref b5)]) (by decide +kernel) hfl (Nat.le_of_ble_eq_true rfl) rfl rfl ?_
  intro p e s m args below meth c A C hex hnm
  generalize hQ : vx_MQ below (Qo D (fun v ws2 => ∃ b7, v = some (.ref b7) ∧ ws2 = [(b5, .inr (0, [vi m0, .ref b7, vi 0])), (xr, .inr (2, fs)), (b7, .inl (cy 2, 10, .inr (.inr (.inr (.inr (fun _ => none))))))]) A) (Xo D no_x A) args s 1 10 A = Q
  replace hQ := hQ.symm
  refine V.aload_n C dJx4a65c_grow_d5877_0 0 rfl ?_
  refine V.aload_n C dJx4a65c_grow_d5877_1 0 rfl ?_
  refine V.getf C (v := vi 0) 0 rfl rfl inJx4a65c 2 (by decide) fl_Jx4a65c_48 (fun _ h => h) rfl dJx4a65c_grow_d5877_2 ?_
  refine V.iconst C dJx4a65c_grow_d5877_5 ?_
  refine V.iadd C dJx4a65c_grow_d5877_6 ?_
  refine V.callV C (As := [vi (0 + 1)]) (st := []) (wr := []) kV_Jx4a65c_69 (c_grow2 l D cy sa hfl b5 xr fs m0) rfl 0 rfl rfl rfl rfl (Nat.le_of_ble_eq_true rfl) ⟨by decide, by decide⟩ ⟨by decide, by decide⟩ dJx4a65c_grow_d5877_7 (fun _ _ h => h.elim) (fun v1 w2 r3 => ?_)
  obtain ⟨b7, rfl, hw2⟩ := r3
  rw [hw2]
  show V D 1 A p l e (rmL 3 1 10) s m args below meth c Q 1 10 ([(b5, .inr (0, [vi m0, .ref b7, vi 0])), (xr, .inr (2, fs)), (b7, .inl (cy 2, 10, .inr (.inr (.inr (.inr (fun _ => none))))))]) 10 [(0, .ref b5)] [.ref b7]
  rw [hQ]
  exact V.aret C (Or.inr ⟨_, rfl⟩) dJx4a65c_grow_d5877_10 (by decide) (by decide) (⟨b7, rfl, rfl⟩)
set_option maxHeartbeats 4000000 in
set_option maxRecDepth 100000 in
theorem c_addA0 (l : Launch) (D : va_G) (cy : Nat → ClassId) (sa : Nat → Addr) (hfl : l.stackTraces = false) (b5 xr : Nat) (fs : List Value) (m0 : Int) : Ct l D cy sa yJx4a65c_add_72be8 cJx4a65c_add_72be8 4 none 4 1 10 ([(b5, .inr (0, [vi m0, .ref (sa 100), vi 0])), (xr, .inr (2, fs))]) [.ref b5, .ref xr, .ref (sa 100), vi 0] (fun v ws2 => v = none ∧ ∃ b7, ws2 = [(b5, .inr (0, [vi m0, .ref b7, vi 1])), (xr, .inr (2, fs)), (b7, .inl (cy 2, 10, .inr (.inr (.inr (.inr (va_up (fun _ => none) (0 : Int).toNat (some xr)))))))]) no_x := by
  refine Ct.of (own := RJx4a65c) (lc := [(0, .ref b5), (1, .ref xr), (2, .ref (sa 100)), (3, vi 0)]) (by decide +kernel) hfl (Nat.le_of_ble_eq_true rfl) rfl rfl ?_
  intro p e s m args below meth c A C hex hnm
  generalize hQ : vx_MQ below (Qo D (fun v ws2 => v = none ∧ ∃ b7, ws2 = [(b5, .inr (0, [vi m0, .ref b7, vi 1])), (xr, .inr (2, fs)), (b7, .inl (cy 2, 10, .inr (.inr (.inr (.inr (va_up (fun _ => none) (0 : Int).toNat (some xr)))))))]) A) (Xo D no_x A) args s 1 10 A = Q
  replace hQ := hQ.symm
  refine V.iload_n C dJx4a65c_add_72be8_0 3 rfl ?_
  refine V.aload_n C dJx4a65c_add_72be8_1 2 rfl ?_
  refine V.slen C dJx4a65c_add_72be8_2 ?_
  refine V.icmp_ne C 11 dJx4a65c_add_72be8_3 (by decide) ⟨by decide, by decide⟩ ⟨by decide, by decide⟩ (fun h3 => (by exact absurd rfl h3)) (fun h3 => ?_)
  refine V.aload_n C dJx4a65c_add_72be8_6 0 rfl ?_
  refine V.callV C (As := []) (st := []) (wr := []) kV_Jx4a65c_129 (c_grow1 l D cy sa hfl b5 xr fs m0) rfl 0 rfl rfl rfl rfl (Nat.le_of_ble_eq_true rfl) ⟨by decide, by decide⟩ ⟨by decide, by decide⟩ dJx4a65c_add_72be8_7 (fun _ _ h => h.elim) (fun v1 w2 r3 => ?_)
  obtain ⟨b7, rfl, hw2⟩ := r3
  rw [hw2]
  show V D 4 A p l e (rmL 4 1 10) s m args below meth c Q 1 10 ([(b5, .inr (0, [vi m0, .ref b7, vi 0])), (xr, .inr (2, fs)), (b7, .inl (cy 2, 10, .inr (.inr (.inr (.inr (fun _ => none))))))]) 10 [(0, .ref b5), (1, .ref xr), (2, .ref (sa 100)), (3, vi 0)] [.ref b7]
  refine V.astore_n C (lc2 := [(2, .ref b7), (0, .ref b5), (1, .ref xr), (3, vi 0)]) dJx4a65c_add_72be8_10 (by decide) rfl ?_
  refine V.aload_n C dJx4a65c_add_72be8_11 0 rfl ?_
  refine V.iload_n C dJx4a65c_add_72be8_12 3 rfl ?_
  refine V.aload_n C dJx4a65c_add_72be8_13 2 rfl ?_
  refine V.astq C 2 1 rfl rfl (by omega) (by omega) (by decide) dJx4a65c_add_72be8_14 rfl ?_
  show V D 4 A p l e (rmL 4 1 10) s m args below meth c Q 1 10 ([(b5, .inr (0, [vi m0, .ref b7, vi 0])), (xr, .inr (2, fs)), (b7, .inl (cy 2, 10, .inr (.inr (.inr (.inr (va_up (fun _ => none) ((0 : Int)).toNat (some xr)))))))]) 15 [(2, .ref b7), (0, .ref b5), (1, .ref xr), (3, vi 0)] []
  refine V.aload_n C dJx4a65c_add_72be8_15 1 rfl ?_
  refine V.iload_n C dJx4a65c_add_72be8_16 3 rfl ?_
  refine V.iconst C dJx4a65c_add_72be8_17 ?_
  refine V.iadd C dJx4a65c_add_72be8_18 ?_
  refine V.putf C (v := vi (0 + 1)) (ty := .int) 0 rfl rfl inJx4a65c tyJx4a65c tyJx4a65c_ok nmJx4a65c 2 (by decide) fl_Jx4a65c_48 (fun _ h => h) rfl (by decide +kernel) rfl rfl (Nat.le_of_ble_eq_true rfl) dJx4a65c_add_72be8_19 rfl ?_
  show V D 4 A p l e (rmL 4 1 10) s m args below meth c Q 1 10 ([(b5, .inr (0, [vi m0, .ref b7, vi (0 + 1)])), (xr, .inr (2, fs)), (b7, .inl (cy 2, 10, .inr (.inr (.inr (.inr (va_up (fun _ => none) ((0 : Int)).toNat (some xr)))))))]) 22 [(2, .ref b7), (0, .ref b5), (1, .ref xr), (3, vi 0)] []
  rw [hQ]
  exact V.vret C dJx4a65c_add_72be8_22 (by decide) (by decide) (⟨rfl, b7, rfl⟩)
set_option maxHeartbeats 4000000 in
set_option maxRecDepth 100000 in
theorem c_add0 (l : Launch) (D : va_G) (cy : Nat → ClassId) (sa : Nat → Addr) (hfl : l.stackTraces = false) (b5 xr : Nat) (fs : List Value) (m0 : Int) : Ct l D cy sa yJx4a65c_add_9ea2d cJx4a65c_add_9ea2d 2 (some .boolean) 5 1 10 ([(b5, .inr (0, [vi m0, .ref (sa 100), vi 0])), (xr, .inr (2, fs))]) [.ref b5, .ref xr] (fun v ws2 => v = some (vi (bI true)) ∧ ∃ b7, ws2 = [(b5, .inr (0, [vi (m0 + 1), .ref b7, vi 1])), (xr, .inr (2, fs)), (b7, .inl (cy 2, 10, .inr (.inr (.inr (.inr (va_up (fun _ => none) (0 : Int).toNat (some xr)))))))]) no_x := by
  refine Ct.of (own := RJx4a65c) (lc := [(0, .ref b5), (1, .ref xr)]) (by decide +kernel) hfl (Nat.le_of_ble_eq_true rfl) rfl rfl ?_
  intro p e s m args below meth c A C hex hnm
  generalize hQ : vx_MQ below (Qo D (fun v ws2 => v = some (vi (bI true)) ∧ ∃ b7, ws2 = [(b5, .inr (0, [vi (m0 + 1), .ref b7, vi 1])), (xr, .inr (2, fs)), (b7, .inl (cy 2, 10, .inr (.inr (.inr (.inr (va_up (fun _ => none) (0 : Int).toNat (some xr)))))))]) A) (Xo D no_x A) args s 1 10 A = Q
  replace hQ := hQ.symm
  refine V.aload_n C dJx4a65c_add_9ea2d_0 0 rfl ?_
  refine V.dup C dJx4a65c_add_9ea2d_1 rfl ?_
  refine V.getf C (v := vi m0) 0 rfl rfl inJx4a65c 0 (by decide) fl_Jx4a65c_63 (fun x9 h9 => u_same (C.hts _ sf_mod) x9 h9) rfl dJx4a65c_add_9ea2d_2 ?_
  refine V.iconst C dJx4a65c_add_9ea2d_5 ?_
  refine V.iadd C dJx4a65c_add_9ea2d_6 ?_
  refine V.putf C (v := vi (m0 + 1)) (ty := .int) 0 rfl rfl inJx4a65c tyJx4a65c tyJx4a65c_ok nmJx4a65c 0 (by decide) fl_Jx4a65c_63 (fun x9 h9 => u_same (C.hts _ sf_mod) x9 h9) rfl (by decide +kernel) rfl rfl (Nat.le_of_ble_eq_true rfl) dJx4a65c_add_9ea2d_7 rfl ?_
  show V D 2 A p l e (rmL 5 1 10) s m args below meth c Q 0 0 ([(b5, .inr (0, [vi (m0 + 1), .ref (sa 100), vi 0])), (xr, .inr (2, fs))]) 10 [(0, .ref b5), (1, .ref xr)] []
  refine V.aload_n C dJx4a65c_add_9ea2d_10 0 rfl ?_
  refine V.aload_n C dJx4a65c_add_9ea2d_11 1 rfl ?_
  refine V.aload_n C dJx4a65c_add_9ea2d_12 0 rfl ?_
  refine V.getf C (v := .ref (sa 100)) 0 rfl rfl inJx4a65c 1 (by decide) fl_Jx4a65c_9 (fun _ h => h) rfl dJx4a65c_add_9ea2d_13 ?_
  refine V.aload_n C dJx4a65c_add_9ea2d_16 0 rfl ?_
  refine V.getf C (v := vi 0) 0 rfl rfl inJx4a65c 2 (by decide) fl_Jx4a65c_48 (fun _ h => h) rfl dJx4a65c_add_9ea2d_17 ?_
  refine V.callV C (As := [.ref xr, .ref (sa 100), vi 0]) (st := []) (wr := []) kV_Jx4a65c_131 (c_addA0 l D cy sa hfl b5 xr fs (m0 + 1)) rfl 0 rfl rfl rfl rfl (Nat.le_of_ble_eq_true rfl) ⟨by decide, by decide⟩ ⟨by decide, by decide⟩ dJx4a65c_add_9ea2d_20 (fun _ _ h => h.elim) (fun v1 w2 r3 => ?_)
  obtain ⟨rfl, b7, hw2⟩ := r3
  rw [hw2]
  show V D 2 A p l e (rmL 5 1 10) s m args below meth c Q 1 10 ([(b5, .inr (0, [vi (m0 + 1), .ref b7, vi 1])), (xr, .inr (2, fs)), (b7, .inl (cy 2, 10, .inr (.inr (.inr (.inr (va_up (fun _ => none) (0 : Int).toNat (some xr)))))))]) 23 [(0, .ref b5), (1, .ref xr)] []
  refine V.iconst C dJx4a65c_add_9ea2d_23 ?_
  show V D 2 A p l e (rmL 5 1 10) s m args below meth c Q 1 10 ([(b5, .inr (0, [vi (m0 + 1), .ref b7, vi 1])), (xr, .inr (2, fs)), (b7, .inl (cy 2, 10, .inr (.inr (.inr (.inr (va_up (fun _ => none) (0 : Int).toNat (some xr)))))))]) 24 [(0, .ref b5), (1, .ref xr)] [vi (bI true)]
  rw [hQ]
  exact V.zret C dJx4a65c_add_9ea2d_24 (by decide) (by decide) (⟨rfl, b7, rfl⟩)
set_option maxHeartbeats 4000000 in
set_option maxRecDepth 100000 in
theorem c_addAN (l : Launch) (D : va_G) (cy : Nat → ClassId) (sa : Nat → Addr) (hfl : l.stackTraces = false) (b5 xr b7 : Nat) (fs : List Value) (m0 : Int) (f : Nat → Option Nat) (x : Int) (h0 : 0 ≤ x) (h1 : x < 10) : Ct l D cy sa yJx4a65c_add_72be8 cJx4a65c_add_72be8 4 none 4 1 10 ([(b5, .inr (0, [vi m0, .ref b7, vi x])), (xr, .inr (2, fs)), (b7, .inl (cy 2, 10, .inr (.inr (.inr (.inr f)))))]) [.ref b5, .ref xr, .ref b7, vi x] (fun v ws2 => v = none ∧ ws2 = [(b5, .inr (0, [vi m0, .ref b7, vi (x + 1)])), (xr, .inr (2, fs)), (b7, .inl (cy 2, 10, .inr (.inr (.inr (.inr (va_up (f) (x).toNat (some xr)))))))]) no_x := by
  refine Ct.of (own := RJx4a65c) (lc := [(0, .ref b5), (1, .ref xr), (2, .ref b7), (3, vi x)]) (by decide +kernel) hfl (Nat.le_of_ble_eq_true rfl) rfl rfl ?_
  intro p e s m args below meth c A C hex hnm
  generalize hQ : vx_MQ below (Qo D (fun v ws2 => v = none ∧ ws2 = [(b5, .inr (0, [vi m0, .ref b7, vi (x + 1)])), (xr, .inr (2, fs)), (b7, .inl (cy 2, 10, .inr (.inr (.inr (.inr (va_up (f) (x).toNat (some xr)))))))]) A) (Xo D no_x A) args s 1 10 A = Q
  replace hQ := hQ.symm
  refine V.iload_n C dJx4a65c_add_72be8_0 3 rfl ?_
  refine V.aload_n C dJx4a65c_add_72be8_1 2 rfl ?_
  refine V.alen C (z := 10) 2 2 rfl rfl rfl dJx4a65c_add_72be8_2 ?_
  refine V.icmp_ne C 11 dJx4a65c_add_72be8_3 (by decide) ⟨by omega, by omega⟩ ⟨by decide, by decide⟩ (fun h3 => ?_) (fun h3 => (by exfalso; omega))
  refine V.aload_n C dJx4a65c_add_72be8_11 2 rfl ?_
  refine V.iload_n C dJx4a65c_add_72be8_12 3 rfl ?_
  refine V.aload_n C dJx4a65c_add_72be8_13 1 rfl ?_
  refine V.astq C 2 1 rfl rfl (by omega) (by omega) (by decide) dJx4a65c_add_72be8_14 rfl ?_
  show V D 4 A p l e (rmL 4 1 10) s m args below meth c Q 0 0 ([(b5, .inr (0, [vi m0, .ref b7, vi x])), (xr, .inr (2, fs)), (b7, .inl (cy 2, 10, .inr (.inr (.inr (.inr (va_up (f) (x).toNat (some xr)))))))]) 15 [(0, .ref b5), (1, .ref xr), (2, .ref b7), (3, vi x)] []
  refine V.aload_n C dJx4a65c_add_72be8_15 0 rfl ?_
  refine V.iload_n C dJx4a65c_add_72be8_16 3 rfl ?_
  refine V.iconst C dJx4a65c_add_72be8_17 ?_
  refine V.iadd C dJx4a65c_add_72be8_18 ?_
  refine V.putf C (v := vi (x + 1)) (ty := .int) 0 rfl rfl inJx4a65c tyJx4a65c tyJx4a65c_ok nmJx4a65c 2 (by decide) fl_Jx4a65c_48 (fun _ h => h) rfl (by decide +kernel) rfl rfl (Nat.le_of_ble_eq_true rfl) dJx4a65c_add_72be8_19 rfl ?_
  show V D 4 A p l e (rmL 4 1 10) s m args below meth c Q 0 0 ([(b5, .inr (0, [vi m0, .ref b7, vi (x + 1)])), (xr, .inr (2, fs)), (b7, .inl (cy 2, 10, .inr (.inr (.inr (.inr (va_up (f) (x).toNat (some xr)))))))]) 22 [(0, .ref b5), (1, .ref xr), (2, .ref b7), (3, vi x)] []
  rw [hQ]
  exact V.vret C dJx4a65c_add_72be8_22 (by decide) (by decide) (⟨rfl, rfl⟩)
set_option maxHeartbeats 4000000 in
set_option maxRecDepth 100000 in
theorem c_addN (l : Launch) (D : va_G) (cy : Nat → ClassId) (sa : Nat → Addr) (hfl : l.stackTraces = false) (b5 xr b7 : Nat) (fs : List Value) (m0 : Int) (f : Nat → Option Nat) (x : Int) (h0 : 0 ≤ x) (h1 : x < 10) : Ct l D cy sa yJx4a65c_add_9ea2d cJx4a65c_add_9ea2d 2 (some .boolean) 5 1 10 ([(b5, .inr (0, [vi m0, .ref b7, vi x])), (xr, .inr (2, fs)), (b7, .inl (cy 2, 10, .inr (.inr (.inr (.inr f)))))]) [.ref b5, .ref xr] (fun v ws2 => v = some (vi (bI true)) ∧ ws2 = [(b5, .inr (0, [vi (m0 + 1), .ref b7, vi (x + 1)])), (xr, .inr (2, fs)), (b7, .inl (cy 2, 10, .inr (.inr (.inr (.inr (va_up (f) (x).toNat (some xr)))))))]) no_x := by
  refine Ct.of (own := RJx4a65c) (lc := [(0, .ref b5), (1, .ref xr)]) (by decide +kernel) hfl (Nat.le_of_ble_eq_true rfl) rfl rfl ?_
  intro p e s m args below meth c A C hex hnm
  generalize hQ : vx_MQ below (Qo D (fun v ws2 => v = some (vi (bI true)) ∧ ws2 = [(b5, .inr (0, [vi (m0 + 1), .ref b7, vi (x + 1)])), (xr, .inr (2, fs)), (b7, .inl (cy 2, 10, .inr (.inr (.inr (.inr (va_up (f) (x).toNat (some xr)))))))]) A) (Xo D no_x A) args s 1 10 A = Q
  replace hQ := hQ.symm
  refine V.aload_n C dJx4a65c_add_9ea2d_0 0 rfl ?_
  refine V.dup C dJx4a65c_add_9ea2d_1 rfl ?_
  refine V.getf C (v := vi m0) 0 rfl rfl inJx4a65c 0 (by decide) fl_Jx4a65c_63 (fun x9 h9 => u_same (C.hts _ sf_mod) x9 h9) rfl dJx4a65c_add_9ea2d_2 ?_
  refine V.iconst C dJx4a65c_add_9ea2d_5 ?_
  refine V.iadd C dJx4a65c_add_9ea2d_6 ?_
  refine V.putf C (v := vi (m0 + 1)) (ty := .int) 0 rfl rfl inJx4a65c tyJx4a65c tyJx4a65c_ok nmJx4a65c 0 (by decide) fl_Jx4a65c_63 (fun x9 h9 => u_same (C.hts _ sf_mod) x9 h9) rfl (by decide +kernel) rfl rfl (Nat.le_of_ble_eq_true rfl) dJx4a65c_add_9ea2d_7 rfl ?_
  show V D 2 A p l e (rmL 5 1 10) s m args below meth c Q 0 0 ([(b5, .inr (0, [vi (m0 + 1), .ref b7, vi x])), (xr, .inr (2, fs)), (b7, .inl (cy 2, 10, .inr (.inr (.inr (.inr f)))))]) 10 [(0, .ref b5), (1, .ref xr)] []
  refine V.aload_n C dJx4a65c_add_9ea2d_10 0 rfl ?_
  refine V.aload_n C dJx4a65c_add_9ea2d_11 1 rfl ?_
  refine V.aload_n C dJx4a65c_add_9ea2d_12 0 rfl ?_
  refine V.getf C (v := .ref b7) 0 rfl rfl inJx4a65c 1 (by decide) fl_Jx4a65c_9 (fun _ h => h) rfl dJx4a65c_add_9ea2d_13 ?_
  refine V.aload_n C dJx4a65c_add_9ea2d_16 0 rfl ?_
  refine V.getf C (v := vi x) 0 rfl rfl inJx4a65c 2 (by decide) fl_Jx4a65c_48 (fun _ h => h) rfl dJx4a65c_add_9ea2d_17 ?_
  refine V.callV C (As := [.ref xr, .ref b7, vi x]) (st := []) (wr := []) kV_Jx4a65c_131 (c_addAN l D cy sa hfl b5 xr b7 fs (m0 + 1) f x h0 h1) rfl 0 rfl rfl rfl rfl (Nat.le_of_ble_eq_true rfl) ⟨by decide, by decide⟩ ⟨by decide, by decide⟩ dJx4a65c_add_9ea2d_20 (fun _ _ h => h.elim) (fun v1 w2 r3 => ?_)
  obtain ⟨rfl, hw2⟩ := r3
  rw [hw2]
  show V D 2 A p l e (rmL 5 1 10) s m args below meth c Q 1 10 ([(b5, .inr (0, [vi (m0 + 1), .ref b7, vi (x + 1)])), (xr, .inr (2, fs)), (b7, .inl (cy 2, 10, .inr (.inr (.inr (.inr (va_up (f) (x).toNat (some xr)))))))]) 23 [(0, .ref b5), (1, .ref xr)] []
  refine V.iconst C dJx4a65c_add_9ea2d_23 ?_
  show V D 2 A p l e (rmL 5 1 10) s m args below meth c Q 1 10 ([(b5, .inr (0, [vi (m0 + 1), .ref b7, vi (x + 1)])), (xr, .inr (2, fs)), (b7, .inl (cy 2, 10, .inr (.inr (.inr (.inr (va_up (f) (x).toNat (some xr)))))))]) 24 [(0, .ref b5), (1, .ref xr)] [vi (bI true)]
  rw [hQ]
  exact V.zret C dJx4a65c_add_9ea2d_24 (by decide) (by decide) (⟨rfl, rfl⟩)
set_option maxHeartbeats 4000000 in
set_option maxRecDepth 100000 in
theorem c_ruleInit (l : Launch) (D : va_G) (cy : Nat → ClassId) (sa : Nat → Addr) (hfl : l.stackTraces = false) (b1 : Nat) (kd nn sh fs ef va : Int) : Ct l D cy sa yX1_init cX1_init 7 none 2 1 720 ([(b1, .inr (2, [vi 0, vi 0, vi 0, vi 0, vi 0, vi 0, vi 0, vi 0, vi 0, vi 0, vi 0, .null]))]) [.ref b1, vi kd, vi nn, vi sh, vi fs, vi ef, vi va] (fun v ws2 => v = none ∧ ∃ b2, ws2 = [(b1, .inr (2, [vi kd, vi nn, vi fs, vi ef, vi va, vi sh, vi 0, vi 0, vi 0, vi (-1), vi (-1), .ref b2])), (b2, arZ cy 720 (fun _ => 0))]) no_x := by
  refine Ct.of (own := RX1) (lc := [(0, .ref b1), (1, vi kd), (2, vi nn), (3, vi sh), (4, vi fs), (5, vi ef), (6, vi va)]) (by decide +kernel) hfl (Nat.le_of_ble_eq_true rfl) rfl rfl ?_
  intro p e s m args below meth c A C hex hnm
  generalize hQ : vx_MQ below (Qo D (fun v ws2 => v = none ∧ ∃ b2, ws2 = [(b1, .inr (2, [vi kd, vi nn, vi fs, vi ef, vi va, vi sh, vi 0, vi 0, vi 0, vi (-1), vi (-1), .ref b2])), (b2, arZ cy 720 (fun _ => 0))]) A) (Xo D no_x A) args s 1 720 A = Q
  replace hQ := hQ.symm
  refine V.aload_n C dX1_init_0 0 rfl ?_
  refine V.objInit C ml_X1_3 dX1_init_1 (by decide) (Nat.le_of_ble_eq_true rfl) ?_
  refine V.aload_n C dX1_init_4 0 rfl ?_
  refine V.iconst C dX1_init_5 ?_
  refine V.putf C (v := vi 0) (ty := .int) 0 rfl rfl inX1 tyX1 tyX1_ok nmX1 6 (by decide) fl_X1_9 (fun _ h => h) rfl (by decide +kernel) rfl rfl (Nat.le_of_ble_eq_true rfl) dX1_init_6 rfl ?_
  show V D 7 A p l e (rmL 2 1 720) s m args below meth c Q 0 0 ([(b1, .inr (2, [vi 0, vi 0, vi 0, vi 0, vi 0, vi 0, vi 0, vi 0, vi 0, vi 0, vi 0, .null]))]) 9 [(0, .ref b1), (1, vi kd), (2, vi nn), (3, vi sh), (4, vi fs), (5, vi ef), (6, vi va)] []
  refine V.aload_n C dX1_init_9 0 rfl ?_
  refine V.iconst C dX1_init_10 ?_
  refine V.putf C (v := vi 0) (ty := .int) 0 rfl rfl inX1 tyX1 tyX1_ok nmX1 7 (by decide) fl_X1_15 (fun _ h => h) rfl (by decide +kernel) rfl rfl (Nat.le_of_ble_eq_true rfl) dX1_init_11 rfl ?_
  show V D 7 A p l e (rmL 2 1 720) s m args below meth c Q 0 0 ([(b1, .inr (2, [vi 0, vi 0, vi 0, vi 0, vi 0, vi 0, vi 0, vi 0, vi 0, vi 0, vi 0, .null]))]) 14 [(0, .ref b1), (1, vi kd), (2, vi nn), (3, vi sh), (4, vi fs), (5, vi ef), (6, vi va)] []
  refine V.aload_n C dX1_init_14 0 rfl ?_
  refine V.iconst C dX1_init_15 ?_
  refine V.putf C (v := vi 0) (ty := .int) 0 rfl rfl inX1 tyX1 tyX1_ok nmX1 8 (by decide) fl_X1_18 (fun _ h => h) rfl (by decide +kernel) rfl rfl (Nat.le_of_ble_eq_true rfl) dX1_init_16 rfl ?_
  show V D 7 A p l e (rmL 2 1 720) s m args below meth c Q 0 0 ([(b1, .inr (2, [vi 0, vi 0, vi 0, vi 0, vi 0, vi 0, vi 0, vi 0, vi 0, vi 0, vi 0, .null]))]) 19 [(0, .ref b1), (1, vi kd), (2, vi nn), (3, vi sh), (4, vi fs), (5, vi ef), (6, vi va)] []
  refine V.aload_n C dX1_init_19 0 rfl ?_
  refine V.iconst C dX1_init_20 ?_
  refine V.putf C (v := vi (-1)) (ty := .int) 0 rfl rfl inX1 tyX1 tyX1_ok nmX1 9 (by decide) fl_X1_21 (fun _ h => h) rfl (by decide +kernel) rfl rfl (Nat.le_of_ble_eq_true rfl) dX1_init_21 rfl ?_
  show V D 7 A p l e (rmL 2 1 720) s m args below meth c Q 0 0 ([(b1, .inr (2, [vi 0, vi 0, vi 0, vi 0, vi 0, vi 0, vi 0, vi 0, vi 0, vi (-1), vi 0, .null]))]) 24 [(0, .ref b1), (1, vi kd), (2, vi nn), (3, vi sh), (4, vi fs), (5, vi ef), (6, vi va)] []
  refine V.aload_n C dX1_init_24 0 rfl ?_
  refine V.iconst C dX1_init_25 ?_
  refine V.putf C (v := vi (-1)) (ty := .int) 0 rfl rfl inX1 tyX1 tyX1_ok nmX1 10 (by decide) fl_X1_24 (fun _ h => h) rfl (by decide +kernel) rfl rfl (Nat.le_of_ble_eq_true rfl) dX1_init_26 rfl ?_
  show V D 7 A p l e (rmL 2 1 720) s m args below meth c Q 0 0 ([(b1, .inr (2, [vi 0, vi 0, vi 0, vi 0, vi 0, vi 0, vi 0, vi 0, vi 0, vi (-1), vi (-1), .null]))]) 29 [(0, .ref b1), (1, vi kd), (2, vi nn), (3, vi sh), (4, vi fs), (5, vi ef), (6, vi va)] []
  refine V.aload_n C dX1_init_29 0 rfl ?_
  refine V.sipush C dX1_init_30 (by decide) ?_
  refine V.newZ C 720 (by decide) (by decide) (by decide) (by decide) dX1_init_33 (fun b2 => ?_)
  show V D 7 A p l e (rmL 2 1 720) s m args below meth c Q 1 720 ([(b1, .inr (2, [vi 0, vi 0, vi 0, vi 0, vi 0, vi 0, vi 0, vi 0, vi 0, vi (-1), vi (-1), .null])), (b2, arZ cy 720 (fun _ => 0))]) 35 [(0, .ref b1), (1, vi kd), (2, vi nn), (3, vi sh), (4, vi fs), (5, vi ef), (6, vi va)] [.ref b2, .ref b1]
  refine V.putF C (v := .ref b2) (ty := (tyX1 11)) 0 rfl rfl inX1 tyX1 tyX1_ok nmX1 11 (by decide) fl_X1_27 (fun _ h => h) rfl hnm rfl (by decide +kernel) rfl rfl (Nat.le_of_ble_eq_true rfl) dX1_init_35 rfl ?_
  show V D 7 A p l e (rmL 2 1 720) s m args below meth c Q 1 720 ([(b1, .inr (2, [vi 0, vi 0, vi 0, vi 0, vi 0, vi 0, vi 0, vi 0, vi 0, vi (-1), vi (-1), .ref b2])), (b2, arZ cy 720 (fun _ => 0))]) 38 [(0, .ref b1), (1, vi kd), (2, vi nn), (3, vi sh), (4, vi fs), (5, vi ef), (6, vi va)] []
  refine V.aload_n C dX1_init_38 0 rfl ?_
  refine V.iload_n C dX1_init_39 1 rfl ?_
  refine V.putF C (v := vi kd) (ty := .int) 0 rfl rfl inX1 tyX1 tyX1_ok nmX1 0 (by decide) fl_X1_31 (fun _ h => h) rfl hnm rfl (by decide +kernel) rfl rfl (Nat.le_of_ble_eq_true rfl) dX1_init_40 rfl ?_
  show V D 7 A p l e (rmL 2 1 720) s m args below meth c Q 1 720 ([(b1, .inr (2, [vi kd, vi 0, vi 0, vi 0, vi 0, vi 0, vi 0, vi 0, vi 0, vi (-1), vi (-1), .ref b2])), (b2, arZ cy 720 (fun _ => 0))]) 43 [(0, .ref b1), (1, vi kd), (2, vi nn), (3, vi sh), (4, vi fs), (5, vi ef), (6, vi va)] []
  refine V.aload_n C dX1_init_43 0 rfl ?_
  refine V.iload_n C dX1_init_44 2 rfl ?_
  refine V.putF C (v := vi nn) (ty := .int) 0 rfl rfl inX1 tyX1 tyX1_ok nmX1 1 (by decide) fl_X1_34 (fun _ h => h) rfl hnm rfl (by decide +kernel) rfl rfl (Nat.le_of_ble_eq_true rfl) dX1_init_45 rfl ?_
  show V D 7 A p l e (rmL 2 1 720) s m args below meth c Q 1 720 ([(b1, .inr (2, [vi kd, vi nn, vi 0, vi 0, vi 0, vi 0, vi 0, vi 0, vi 0, vi (-1), vi (-1), .ref b2])), (b2, arZ cy 720 (fun _ => 0))]) 48 [(0, .ref b1), (1, vi kd), (2, vi nn), (3, vi sh), (4, vi fs), (5, vi ef), (6, vi va)] []
  refine V.aload_n C dX1_init_48 0 rfl ?_
  refine V.iload_n C dX1_init_49 3 rfl ?_
  refine V.putf C (v := vi sh) (ty := .int) 0 rfl rfl inX1 tyX1 tyX1_ok nmX1 5 (by decide) fl_X1_37 (fun _ h => h) rfl (by decide +kernel) rfl rfl (Nat.le_of_ble_eq_true rfl) dX1_init_50 rfl ?_
  show V D 7 A p l e (rmL 2 1 720) s m args below meth c Q 1 720 ([(b1, .inr (2, [vi kd, vi nn, vi 0, vi 0, vi 0, vi sh, vi 0, vi 0, vi 0, vi (-1), vi (-1), .ref b2])), (b2, arZ cy 720 (fun _ => 0))]) 53 [(0, .ref b1), (1, vi kd), (2, vi nn), (3, vi sh), (4, vi fs), (5, vi ef), (6, vi va)] []
  refine V.aload_n C dX1_init_53 0 rfl ?_
  refine V.iload C dX1_init_54 4 rfl ?_
  refine V.putF C (v := vi fs) (ty := .int) 0 rfl rfl inX1 tyX1 tyX1_ok nmX1 2 (by decide) fl_X1_40 (fun _ h => h) rfl hnm rfl (by decide +kernel) rfl rfl (Nat.le_of_ble_eq_true rfl) dX1_init_56 rfl ?_
  show V D 7 A p l e (rmL 2 1 720) s m args below meth c Q 1 720 ([(b1, .inr (2, [vi kd, vi nn, vi fs, vi 0, vi 0, vi sh, vi 0, vi 0, vi 0, vi (-1), vi (-1), .ref b2])), (b2, arZ cy 720 (fun _ => 0))]) 59 [(0, .ref b1), (1, vi kd), (2, vi nn), (3, vi sh), (4, vi fs), (5, vi ef), (6, vi va)] []
  refine V.aload_n C dX1_init_59 0 rfl ?_
  refine V.iload C dX1_init_60 5 rfl ?_
  refine V.putF C (v := vi ef) (ty := .int) 0 rfl rfl inX1 tyX1 tyX1_ok nmX1 3 (by decide) fl_X1_43 (fun _ h => h) rfl hnm rfl (by decide +kernel) rfl rfl (Nat.le_of_ble_eq_true rfl) dX1_init_62 rfl ?_
  show V D 7 A p l e (rmL 2 1 720) s m args below meth c Q 1 720 ([(b1, .inr (2, [vi kd, vi nn, vi fs, vi ef, vi 0, vi sh, vi 0, vi 0, vi 0, vi (-1), vi (-1), .ref b2])), (b2, arZ cy 720 (fun _ => 0))]) 65 [(0, .ref b1), (1, vi kd), (2, vi nn), (3, vi sh), (4, vi fs), (5, vi ef), (6, vi va)] []
  refine V.aload_n C dX1_init_65 0 rfl ?_
  refine V.iload C dX1_init_66 6 rfl ?_
  refine V.putF C (v := vi va) (ty := .int) 0 rfl rfl inX1 tyX1 tyX1_ok nmX1 4 (by decide) fl_X1_46 (fun _ h => h) rfl hnm rfl (by decide +kernel) rfl rfl (Nat.le_of_ble_eq_true rfl) dX1_init_68 rfl ?_
  show V D 7 A p l e (rmL 2 1 720) s m args below meth c Q 1 720 ([(b1, .inr (2, [vi kd, vi nn, vi fs, vi ef, vi va, vi sh, vi 0, vi 0, vi 0, vi (-1), vi (-1), .ref b2])), (b2, arZ cy 720 (fun _ => 0))]) 71 [(0, .ref b1), (1, vi kd), (2, vi nn), (3, vi sh), (4, vi fs), (5, vi ef), (6, vi va)] []
  rw [hQ]
  exact V.vret C dX1_init_71 (by decide) (by decide) (⟨rfl, b2, rfl⟩)
