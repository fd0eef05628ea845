set_option maxHeartbeats 4000000 in
set_option maxRecDepth 100000 in
theorem c_size (l : Launch) (D : va_G) (cy : Nat → ClassId) (sa : Nat → Addr) (hfl : l.stackTraces = false) (ad : Nat → Nat) (n : Nat) (M : Nat → Int → Int) : Ct l D cy sa yJx4a65c_size_8abf5 cJx4a65c_size_8abf5 1 (some .int) 0 0 0 (cl cy (sa 100) ad n M) [.ref (ad 5)] (fun v ws2 => v = some (vi (n : Int)) ∧ ws2 = cl cy (sa 100) ad n M) no_x := by
  refine Ct.of (own := RJx4a65c) (lc := [(0, .ref (ad 5))]) (by decide +kernel) hfl (Nat.le_of_ble_eq_true rfl) rfl rfl ?_
  intro p e s m args below meth c A C hex hnm
  generalize hQ : vx_MQ below (Qo D (fun v ws2 => v = some (vi (n : Int)) ∧ ws2 = cl cy (sa 100) ad n M) A) (Xo D no_x A) args s 0 0 A = Q
  replace hQ := hQ.symm
  refine V.aload_n C dJx4a65c_size_8abf5_0 0 rfl ?_
  refine V.getf C (v := vi (n : Int)) 5 cl_5 rfl inJx4a65c 2 (by decide) fl_Jx4a65c_48 (fun _ h => h) rfl dJx4a65c_size_8abf5_1 ?_
  rw [hQ]
  exact V.iret C dJx4a65c_size_8abf5_4 (by decide) (by decide) (⟨rfl, rfl⟩)
set_option maxHeartbeats 4000000 in
set_option maxRecDepth 100000 in
theorem c_elementData (l : Launch) (D : va_G) (cy : Nat → ClassId) (sa : Nat → Addr) (hfl : l.stackTraces = false) (ad : Nat → Nat) (n : Nat) (M : Nat → Int → Int) (i : Nat) (hi : i < n) (hn : n ≤ 8) : Ct l D cy sa yJx4a65c_elementData_915e3 cJx4a65c_elementData_915e3 2 (some (.object "java/lang/Object")) 0 0 0 (cl cy (sa 100) ad n M) [.ref (ad 5), vi (i : Int)] (fun v ws2 => v = some (.ref (ad (8 + 2 * i))) ∧ ws2 = cl cy (sa 100) ad n M) no_x := by
  refine Ct.of (own := RJx4a65c) (lc := [(0, .ref (ad 5)), (1, vi (i : Int))]) (by decide +kernel) hfl (Nat.le_of_ble_eq_true rfl) rfl rfl ?_
  intro p e s m args below meth c A C hex hnm
  generalize hQ : vx_MQ below (Qo D (fun v ws2 => v = some (.ref (ad (8 + 2 * i))) ∧ ws2 = cl cy (sa 100) ad n M) A) (Xo D no_x A) args s 0 0 A = Q
  replace hQ := hQ.symm
  refine V.aload_n C dJx4a65c_elementData_915e3_0 0 rfl ?_
  refine V.getf C (v := .ref (ad 7)) 5 cl_5 rfl inJx4a65c 1 (by decide) fl_Jx4a65c_9 (fun _ h => h) (by show some _ = some _; rw [show (if n = 0 then sa 100 else ad 7) = ad 7 from if_neg (by omega)]) dJx4a65c_elementData_915e3_1 ?_
  refine V.iload_n C dJx4a65c_elementData_915e3_4 1 rfl ?_
  refine V.aldq C (x := ad (8 + 2 * i)) 7 (cl_7 (by omega)) (by omega) (by omega) (by decide) (by simp [elF, hi]) dJx4a65c_elementData_915e3_5 ?_
  rw [hQ]
  exact V.aret C (Or.inl ⟨_, rfl⟩) dJx4a65c_elementData_915e3_6 (by decide) (by decide) (⟨rfl, rfl⟩)
set_option maxHeartbeats 4000000 in
set_option maxRecDepth 100000 in
theorem c_checkIndex3 (l : Launch) (D : va_G) (cy : Nat → ClassId) (sa : Nat → Addr) (hfl : l.stackTraces = false) (ws : va_W) (x z : Int) (h0 : 0 ≤ x) (h1 : x < z) (h2 : z < 1000) : Ct l D cy sa yJ3_checkIndex_8e157 cJ3_checkIndex_8e157 3 (some .int) 0 0 0 ws [vi x, vi z, .null] (fun v ws2 => v = some (vi x) ∧ ws2 = ws) no_x := by
  refine Ct.of (own := RJ3) (lc := [(0, vi x), (1, vi z), (2, .null)]) (by decide +kernel) hfl (Nat.le_of_ble_eq_true rfl) rfl rfl ?_
  intro p e s m args below meth c A C hex hnm
  generalize hQ : vx_MQ below (Qo D (fun v ws2 => v = some (vi x) ∧ ws2 = ws) A) (Xo D no_x A) args s 0 0 A = Q
  replace hQ := hQ.symm
  refine V.iload_n C dJ3_checkIndex_8e157_0 0 rfl ?_
  refine V.if_lt C 9 dJ3_checkIndex_8e157_1 (by decide) ⟨by omega, by omega⟩ (fun h1 => (by exfalso; omega)) (fun h1 => ?_)
  refine V.iload_n C dJ3_checkIndex_8e157_4 0 rfl ?_
  refine V.iload_n C dJ3_checkIndex_8e157_5 1 rfl ?_
  refine V.icmp_lt C 16 dJ3_checkIndex_8e157_6 (by decide) ⟨by omega, by omega⟩ ⟨by omega, by omega⟩ (fun h6 => ?_) (fun h6 => (by exfalso; omega))
  refine V.iload_n C dJ3_checkIndex_8e157_16 0 rfl ?_
  rw [hQ]
  exact V.iret C dJ3_checkIndex_8e157_17 (by decide) (by decide) (⟨rfl, rfl⟩)
set_option maxHeartbeats 4000000 in
set_option maxRecDepth 100000 in
theorem c_checkIndex15 (l : Launch) (D : va_G) (cy : Nat → ClassId) (sa : Nat → Addr) (hfl : l.stackTraces = false) (ws : va_W) (x z : Int) (h0 : 0 ≤ x) (h1 : x < z) (h2 : z < 1000) : Ct l D cy sa yJ15_checkIndex_7cf53 cJ15_checkIndex_7cf53 2 (some .int) 1 0 0 ws [vi x, vi z] (fun v ws2 => v = some (vi x) ∧ ws2 = ws) no_x := by
  refine Ct.of (own := RJ15) (lc := [(0, vi x), (1, vi z)]) (by decide +kernel) hfl (Nat.le_of_ble_eq_true rfl) rfl rfl ?_
  intro p e s m args below meth c A C hex hnm
  generalize hQ : vx_MQ below (Qo D (fun v ws2 => v = some (vi x) ∧ ws2 = ws) A) (Xo D no_x A) args s 0 0 A = Q
  replace hQ := hQ.symm
  refine V.iload_n C dJ15_checkIndex_7cf53_0 0 rfl ?_
  refine V.iload_n C dJ15_checkIndex_7cf53_1 1 rfl ?_
  refine V.anull C dJ15_checkIndex_7cf53_2 ?_
  refine V.callS C (As := [vi x, vi z, .null]) (st := []) (wr := []) kS_J15_105 (c_checkIndex3 l D cy sa hfl ws x z h0 h1 h2) rfl rfl rfl (Nat.le_of_ble_eq_true rfl) ⟨by decide, by decide⟩ ⟨by decide, by decide⟩ dJ15_checkIndex_7cf53_3 (fun _ _ h => h.elim) (fun v1 w2 r3 => ?_)
  obtain ⟨rfl, hw2⟩ := r3
  rw [hw2]
  show V D 2 A p l e (rmL 1 0 0) s m args below meth c Q 0 0 ws 6 [(0, vi x), (1, vi z)] [vi x]
  rw [hQ]
  exact V.iret C dJ15_checkIndex_7cf53_6 (by decide) (by decide) (⟨rfl, rfl⟩)
set_option maxHeartbeats 4000000 in
set_option maxRecDepth 100000 in
theorem c_get (l : Launch) (D : va_G) (cy : Nat → ClassId) (sa : Nat → Addr) (hfl : l.stackTraces = false) (ad : Nat → Nat) (n : Nat) (M : Nat → Int → Int) (i : Nat) (hi : i < n) (hn : n ≤ 8) : Ct l D cy sa yJx4a65c_get_915e3 cJx4a65c_get_915e3 2 (some (.object "java/lang/Object")) 2 0 0 (cl cy (sa 100) ad n M) [.ref (ad 5), vi (i : Int)] (fun v ws2 => v = some (.ref (ad (8 + 2 * i))) ∧ ws2 = cl cy (sa 100) ad n M) no_x := by
  refine Ct.of (own := RJx4a65c) (lc := [(0, .ref (ad 5)), (1, vi (i : Int))]) (by decide +kernel) hfl (Nat.le_of_ble_eq_true rfl) rfl rfl ?_
  intro p e s m args below meth c A C hex hnm
  generalize hQ : vx_MQ below (Qo D (fun v ws2 => v = some (.ref (ad (8 + 2 * i))) ∧ ws2 = cl cy (sa 100) ad n M) A) (Xo D no_x A) args s 0 0 A = Q
  replace hQ := hQ.symm
  refine V.iload_n C dJx4a65c_get_915e3_0 1 rfl ?_
  refine V.aload_n C dJx4a65c_get_915e3_1 0 rfl ?_
  refine V.getf C (v := vi (n : Int)) 5 cl_5 rfl inJx4a65c 2 (by decide) fl_Jx4a65c_48 (fun _ h => h) rfl dJx4a65c_get_915e3_2 ?_
  refine V.callS C (As := [vi (i : Int), vi (n : Int)]) (st := []) (wr := []) kS_Jx4a65c_118 (c_checkIndex15 l D cy sa hfl (cl cy (sa 100) ad n M) (i : Int) (n : Int) (by omega) (by omega) (by omega)) rfl rfl rfl (Nat.le_of_ble_eq_true rfl) ⟨by decide, by decide⟩ ⟨by decide, by decide⟩ dJx4a65c_get_915e3_5 (fun _ _ h => h.elim) (fun v1 w2 r3 => ?_)
  obtain ⟨rfl, hw2⟩ := r3
  rw [hw2]
  show V D 2 A p l e (rmL 2 0 0) s m args below meth c Q 0 0 (cl cy (sa 100) ad n M) 8 [(0, .ref (ad 5)), (1, vi (i : Int))] [vi (i : Int)]
  refine V.pop C dJx4a65c_get_915e3_8 rfl ?_
  refine V.aload_n C dJx4a65c_get_915e3_9 0 rfl ?_
  refine V.iload_n C dJx4a65c_get_915e3_10 1 rfl ?_
  refine V.callV C (As := [vi (i : Int)]) (st := []) (wr := []) kV_Jx4a65c_123 (c_elementData l D cy sa hfl ad n M i hi hn) rfl 5 cl_5 rfl rfl rfl (Nat.le_of_ble_eq_true rfl) ⟨by decide, by decide⟩ ⟨by decide, by decide⟩ dJx4a65c_get_915e3_11 (fun _ _ h => h.elim) (fun v4 w5 r6 => ?_)
  obtain ⟨rfl, hw5⟩ := r6
  rw [hw5]
  show V D 2 A p l e (rmL 2 0 0) s m args below meth c Q 0 0 (cl cy (sa 100) ad n M) 14 [(0, .ref (ad 5)), (1, vi (i : Int))] [.ref (ad (8 + 2 * i))]
  rw [hQ]
  exact V.aret C (Or.inl ⟨_, rfl⟩) dJx4a65c_get_915e3_14 (by decide) (by decide) (⟨rfl, rfl⟩)
set_option maxHeartbeats 4000000 in
set_option maxRecDepth 100000 in
theorem c_checkDay (l : Launch) (D : va_G) (cy : Nat → ClassId) (sa : Nat → Addr) (hfl : l.stackTraces = false) (ws : va_W) (x : Int) (hx : inR x) : Ct l D cy sa yX2_checkDay cX2_checkDay 1 none 6 1 6 ws [vi x] (fun v ws2 => v = none ∧ ws2 = ws ∧ 0 ≤ x ∧ x < 720) (fun E ws2 => E = xIO ∧ ws2 = ws ∧ isDy x = false) := by
  refine Ct.of (own := RX2) (lc := [(0, vi x)]) (by decide +kernel) hfl (Nat.le_of_ble_eq_true rfl) rfl rfl ?_
  intro p e s m args below meth c A C hex hnm
  generalize hQ : vx_MQ below (Qo D (fun v ws2 => v = none ∧ ws2 = ws ∧ 0 ≤ x ∧ x < 720) A) (Xo D (fun E ws2 => E = xIO ∧ ws2 = ws ∧ isDy x = false) A) args s 1 6 A = Q
  replace hQ := hQ.symm
  obtain ⟨hx1, hx2⟩ := hx
  refine V.iload_n C dX2_checkDay_0 0 rfl ?_
  refine V.callS C (As := [vi x]) (st := []) (wr := []) kS_X2_181 (c_isDay l D cy sa hfl ws x ⟨by omega, by omega⟩) rfl rfl rfl (Nat.le_of_ble_eq_true rfl) ⟨by decide, by decide⟩ ⟨by decide, by decide⟩ dX2_checkDay_1 (fun _ _ h => h.elim) (fun v1 w2 r3 => ?_)
  obtain ⟨rfl, hw2⟩ := r3
  rw [hw2]
  show V D 1 A p l e (rmL 6 1 6) s m args below meth c Q 0 0 ws 4 [(0, vi x)] [vi (bI (isDy x))]
  refine V.if_neB C 17 dX2_checkDay_4 (by decide) (fun h4 => ?_) (fun h4 => ?_)
  · skip
    rw [hQ]
    exact V.vret C dX2_checkDay_17 (by decide) (by decide) (⟨rfl, rfl, isDy_iff.mp h4⟩)
  · skip
    rw [hQ]
    exact V.throw_IOOBE C hex 0 rfl dX2_checkDay_7 dX2_checkDay_10 dX2_checkDay_11 dX2_checkDay_13 dX2_checkDay_16 (by decide) (Nat.le_of_ble_eq_true rfl) (by decide) (by decide) ⟨by decide, by decide⟩ (⟨rfl, rfl, h4⟩)
set_option maxHeartbeats 4000000 in
set_option maxRecDepth 100000 in
theorem c_checkPlace (l : Launch) (D : va_G) (cy : Nat → ClassId) (sa : Nat → Addr) (hfl : l.stackTraces = false) (ws : va_W) (x : Int) (hx : inR x) : Ct l D cy sa yX2_checkPlace cX2_checkPlace 1 none 6 1 6 ws [vi x] (fun v ws2 => v = none ∧ ws2 = ws ∧ 0 ≤ x) (fun E ws2 => E = xIO ∧ ws2 = ws ∧ x < 0) := by
  refine Ct.of (own := RX2) (lc := [(0, vi x)]) (by decide +kernel) hfl (Nat.le_of_ble_eq_true rfl) rfl rfl ?_
  intro p e s m args below meth c A C hex hnm
  generalize hQ : vx_MQ below (Qo D (fun v ws2 => v = none ∧ ws2 = ws ∧ 0 ≤ x) A) (Xo D (fun E ws2 => E = xIO ∧ ws2 = ws ∧ x < 0) A) args s 1 6 A = Q
  replace hQ := hQ.symm
  obtain ⟨hx1, hx2⟩ := hx
  refine V.iload_n C dX2_checkPlace_0 0 rfl ?_
  refine V.if_ge C 14 dX2_checkPlace_1 (by decide) ⟨by omega, by omega⟩ (fun h1 => ?_) (fun h1 => ?_)
  · skip
    rw [hQ]
    exact V.vret C dX2_checkPlace_14 (by decide) (by decide) (⟨rfl, rfl, h1⟩)
  · skip
    rw [hQ]
    exact V.throw_IOOBE C hex 7 rfl dX2_checkPlace_4 dX2_checkPlace_7 dX2_checkPlace_8 dX2_checkPlace_10 dX2_checkPlace_13 (by decide) (Nat.le_of_ble_eq_true rfl) (by decide) (by decide) ⟨by decide, by decide⟩ (⟨rfl, rfl, by omega⟩)
set_option maxHeartbeats 4000000 in
set_option maxRecDepth 100000 in
theorem c_checkRange (l : Launch) (D : va_G) (cy : Nat → ClassId) (sa : Nat → Addr) (hfl : l.stackTraces = false) (ws : va_W) (x a b : Int) (hx : inR x) (ha : inR a) (hb : inR b) : Ct l D cy sa yX2_checkRange cX2_checkRange 3 none 6 1 6 ws [vi x, vi a, vi b] (fun v ws2 => v = none ∧ ws2 = ws ∧ a ≤ x ∧ x ≤ b) (fun E ws2 => E = xIA ∧ ws2 = ws ∧ (x < a ∨ b < x)) := by
  refine Ct.of (own := RX2) (lc := [(0, vi x), (1, vi a), (2, vi b)]) (by decide +kernel) hfl (Nat.le_of_ble_eq_true rfl) rfl rfl ?_
  intro p e s m args below meth c A C hex hnm
  generalize hQ : vx_MQ below (Qo D (fun v ws2 => v = none ∧ ws2 = ws ∧ a ≤ x ∧ x ≤ b) A) (Xo D (fun E ws2 => E = xIA ∧ ws2 = ws ∧ (x < a ∨ b < x)) A) args s 1 6 A = Q
  replace hQ := hQ.symm
  obtain ⟨hx1, hx2⟩ := hx
  obtain ⟨ha1, ha2⟩ := ha
  obtain ⟨hb1, hb2⟩ := hb
  refine V.iload_n C dX2_checkRange_0 0 rfl ?_
  refine V.iload_n C dX2_checkRange_1 1 rfl ?_
  refine V.icmp_lt C 10 dX2_checkRange_2 (by decide) ⟨by omega, by omega⟩ ⟨by omega, by omega⟩ (fun h2 => ?_) (fun h2 => ?_)
  · skip
    rw [hQ]
    exact V.throw_IAE C hex 2 rfl dX2_checkRange_10 dX2_checkRange_13 dX2_checkRange_14 dX2_checkRange_16 dX2_checkRange_19 (by decide) (Nat.le_of_ble_eq_true rfl) (by decide) (by decide) ⟨by decide, by decide⟩ (⟨rfl, rfl, by omega⟩)
  · skip
    refine V.iload_n C dX2_checkRange_5 0 rfl ?_
    refine V.iload_n C dX2_checkRange_6 2 rfl ?_
    refine V.icmp_le C 20 dX2_checkRange_7 (by decide) ⟨by omega, by omega⟩ ⟨by omega, by omega⟩ (fun h7 => ?_) (fun h7 => ?_)
    · skip
      rw [hQ]
      exact V.vret C dX2_checkRange_20 (by decide) (by decide) (⟨rfl, rfl, by omega, by omega⟩)
    · skip
      rw [hQ]
      exact V.throw_IAE C hex 2 rfl dX2_checkRange_10 dX2_checkRange_13 dX2_checkRange_14 dX2_checkRange_16 dX2_checkRange_19 (by decide) (Nat.le_of_ble_eq_true rfl) (by decide) (by decide) ⟨by decide, by decide⟩ (⟨rfl, rfl, by omega⟩)
def KV (kd nn : Int) : Prop := (0 ≤ kd ∧ kd ≤ 3) ∧ (kd = 0 → 1 ≤ nn ∧ nn ≤ 60) ∧ (kd = 1 → 0 ≤ nn ∧ nn ≤ 29) ∧ (2 ≤ kd → 1 ≤ nn ∧ nn ≤ 22)
set_option maxHeartbeats 4000000 in
set_option maxRecDepth 100000 in
theorem c_checkKind (l : Launch) (D : va_G) (cy : Nat → ClassId) (sa : Nat → Addr) (hfl : l.stackTraces = false) (ws : va_W) (x z : Int) (hx : inR x) (hz : inR z) : Ct l D cy sa yX2_checkKind cX2_checkKind 2 none 7 2 12 ws [vi x, vi z] (fun v ws2 => v = none ∧ ws2 = ws ∧ KV x z) (fun E ws2 => E = xIA ∧ ws2 = ws ∧ ¬ KV x z) := by
  refine Ct.of (own := RX2) (lc := [(0, vi x), (1, vi z)]) (by decide +kernel) hfl (Nat.le_of_ble_eq_true rfl) rfl rfl ?_
  intro p e s m args below meth c A C hex hnm
  generalize hQ : vx_MQ below (Qo D (fun v ws2 => v = none ∧ ws2 = ws ∧ KV x z) A) (Xo D (fun E ws2 => E = xIA ∧ ws2 = ws ∧ ¬ KV x z) A) args s 2 12 A = Q
  replace hQ := hQ.symm
  obtain ⟨hx1, hx2⟩ := hx
  obtain ⟨hz1, hz2⟩ := hz
  refine V.iload_n C dX2_checkKind_0 0 rfl ?_
  refine V.iconst C dX2_checkKind_1 ?_
  refine V.iconst C dX2_checkKind_2 ?_
  refine V.callS C (As := [vi x, vi 0, vi 3]) (st := []) (wr := []) kS_X2_60 (c_checkRange l D cy sa hfl ws x 0 3 ⟨by omega, by omega⟩ ⟨by decide, by decide⟩ ⟨by decide, by decide⟩) rfl rfl rfl (Nat.le_of_ble_eq_true rfl) ⟨by decide, by decide⟩ ⟨by decide, by decide⟩ dX2_checkKind_3 (fun E wsx hx => ?_) (fun v1 w2 r3 => ?_)
  · skip
    obtain ⟨rfl, rfl, hx1⟩ := hx
    rw [hQ]
    exact VX.out C hex (by decide) (by decide) (⟨rfl, rfl, fun z => by have z1 := z.1; have z2 := z.2.1; have z3 := z.2.2.1; have z4 := z.2.2.2; omega⟩)
  · skip
    obtain ⟨rfl, hw2, gk0, gk1⟩ := r3
    rw [hw2]
    show V D 2 A p l e (rmL 7 2 12) s m args below meth c Q 1 6 ws 6 [(0, vi x), (1, vi z)] []
    refine V.iload_n C dX2_checkKind_6 0 rfl ?_
    refine V.if_ne C 20 dX2_checkKind_7 (by decide) ⟨by omega, by omega⟩ (fun h7 => ?_) (fun h7 => ?_)
    · skip
      refine V.iload_n C dX2_checkKind_20 0 rfl ?_
      refine V.iconst C dX2_checkKind_21 ?_
      refine V.icmp_ne C 35 dX2_checkKind_22 (by decide) ⟨by omega, by omega⟩ ⟨by decide, by decide⟩ (fun h22 => ?_) (fun h22 => ?_)
      · skip
        refine V.iload_n C dX2_checkKind_35 1 rfl ?_
        refine V.iconst C dX2_checkKind_36 ?_
        refine V.bipush C dX2_checkKind_37 (by decide) ?_
        refine V.callS C (As := [vi z, vi 1, vi 22]) (st := []) (wr := []) kS_X2_60 (c_checkRange l D cy sa hfl ws z 1 22 ⟨by omega, by omega⟩ ⟨by decide, by decide⟩ ⟨by decide, by decide⟩) rfl rfl rfl (Nat.le_of_ble_eq_true rfl) ⟨by decide, by decide⟩ ⟨by decide, by decide⟩ dX2_checkKind_39 (fun E wsx hx => ?_) (fun v4 w5 r6 => ?_)
        · skip
          obtain ⟨rfl, rfl, hx1⟩ := hx
          rw [hQ]
          exact VX.out C hex (by decide) (by decide) (⟨rfl, rfl, fun z => by have z1 := z.1; have z2 := z.2.1; have z3 := z.2.2.1; have z4 := z.2.2.2; omega⟩)
        · skip
          obtain ⟨rfl, hw5, gn0, gn1⟩ := r6
          rw [hw5]
          show V D 2 A p l e (rmL 7 2 12) s m args below meth c Q 2 12 ws 42 [(0, vi x), (1, vi z)] []
          rw [hQ]
          exact V.vret C dX2_checkKind_42 (by decide) (by decide) (⟨rfl, rfl, ⟨gk0, gk1⟩, fun _ => by omega, fun _ => by omega, fun _ => by omega⟩)
      · skip
        refine V.iload_n C dX2_checkKind_25 1 rfl ?_
        refine V.iconst C dX2_checkKind_26 ?_
        refine V.bipush C dX2_checkKind_27 (by decide) ?_
        refine V.callS C (As := [vi z, vi 0, vi 29]) (st := []) (wr := []) kS_X2_60 (c_checkRange l D cy sa hfl ws z 0 29 ⟨by omega, by omega⟩ ⟨by decide, by decide⟩ ⟨by decide, by decide⟩) rfl rfl rfl (Nat.le_of_ble_eq_true rfl) ⟨by decide, by decide⟩ ⟨by decide, by decide⟩ dX2_checkKind_29 (fun E wsx hx => ?_) (fun v7 w8 r9 => ?_)
        · skip
          obtain ⟨rfl, rfl, hx1⟩ := hx
          rw [hQ]
          exact VX.out C hex (by decide) (by decide) (⟨rfl, rfl, fun z => by have z1 := z.1; have z2 := z.2.1; have z3 := z.2.2.1; have z4 := z.2.2.2; omega⟩)
        · skip
          obtain ⟨rfl, hw8, gn0, gn1⟩ := r9
          rw [hw8]
          show V D 2 A p l e (rmL 7 2 12) s m args below meth c Q 2 12 ws 32 [(0, vi x), (1, vi z)] []
          refine V.goto C 42 dX2_checkKind_32 (by decide) ?_
          rw [hQ]
          exact V.vret C dX2_checkKind_42 (by decide) (by decide) (⟨rfl, rfl, ⟨gk0, gk1⟩, fun _ => by omega, fun _ => by omega, fun _ => by omega⟩)
    · skip
      refine V.iload_n C dX2_checkKind_10 1 rfl ?_
      refine V.iconst C dX2_checkKind_11 ?_
      refine V.bipush C dX2_checkKind_12 (by decide) ?_
      refine V.callS C (As := [vi z, vi 1, vi 60]) (st := []) (wr := []) kS_X2_60 (c_checkRange l D cy sa hfl ws z 1 60 ⟨by omega, by omega⟩ ⟨by decide, by decide⟩ ⟨by decide, by decide⟩) rfl rfl rfl (Nat.le_of_ble_eq_true rfl) ⟨by decide, by decide⟩ ⟨by decide, by decide⟩ dX2_checkKind_14 (fun E wsx hx => ?_) (fun v10 w11 r12 => ?_)
      · skip
        obtain ⟨rfl, rfl, hx1⟩ := hx
        rw [hQ]
        exact VX.out C hex (by decide) (by decide) (⟨rfl, rfl, fun z => by have z1 := z.1; have z2 := z.2.1; have z3 := z.2.2.1; have z4 := z.2.2.2; omega⟩)
      · skip
        obtain ⟨rfl, hw11, gn0, gn1⟩ := r12
        rw [hw11]
        show V D 2 A p l e (rmL 7 2 12) s m args below meth c Q 2 12 ws 17 [(0, vi x), (1, vi z)] []
        refine V.goto C 42 dX2_checkKind_17 (by decide) ?_
        rw [hQ]
        exact V.vret C dX2_checkKind_42 (by decide) (by decide) (⟨rfl, rfl, ⟨gk0, gk1⟩, fun _ => by omega, fun _ => by omega, fun _ => by omega⟩)
set_option maxHeartbeats 4000000 in
set_option maxRecDepth 100000 in
theorem c_checkShift (l : Launch) (D : va_G) (cy : Nat → ClassId) (sa : Nat → Addr) (hfl : l.stackTraces = false) (ws : va_W) (x : Int) (hx : inR x) : Ct l D cy sa yX2_checkShift cX2_checkShift 1 none 7 1 6 ws [vi x] (fun v ws2 => v = none ∧ ws2 = ws ∧ 0 ≤ x ∧ x ≤ 2) (fun E ws2 => E = xIA ∧ ws2 = ws ∧ (x < 0 ∨ 2 < x)) := by
  refine Ct.of (own := RX2) (lc := [(0, vi x)]) (by decide +kernel) hfl (Nat.le_of_ble_eq_true rfl) rfl rfl ?_
  intro p e s m args below meth c A C hex hnm
  generalize hQ : vx_MQ below (Qo D (fun v ws2 => v = none ∧ ws2 = ws ∧ 0 ≤ x ∧ x ≤ 2) A) (Xo D (fun E ws2 => E = xIA ∧ ws2 = ws ∧ (x < 0 ∨ 2 < x)) A) args s 1 6 A = Q
  replace hQ := hQ.symm
  obtain ⟨hx1, hx2⟩ := hx
  refine V.iload_n C dX2_checkShift_0 0 rfl ?_
  refine V.iconst C dX2_checkShift_1 ?_
  refine V.iconst C dX2_checkShift_2 ?_
  refine V.callS C (As := [vi x, vi 0, vi 2]) (st := []) (wr := []) kS_X2_60 (c_checkRange l D cy sa hfl ws x 0 2 ⟨by omega, by omega⟩ ⟨by decide, by decide⟩ ⟨by decide, by decide⟩) rfl rfl rfl (Nat.le_of_ble_eq_true rfl) ⟨by decide, by decide⟩ ⟨by decide, by decide⟩ dX2_checkShift_3 (fun E wsx hx => ?_) (fun v1 w2 r3 => ?_)
  · skip
    obtain ⟨rfl, rfl, hx1⟩ := hx
    rw [hQ]
    exact VX.out C hex (by decide) (by decide) (⟨rfl, rfl, hx1⟩)
  · skip
    obtain ⟨rfl, hw2, gk0, gk1⟩ := r3
    rw [hw2]
    show V D 1 A p l e (rmL 7 1 6) s m args below meth c Q 1 6 ws 6 [(0, vi x)] []
    rw [hQ]
    exact V.vret C dX2_checkShift_6 (by decide) (by decide) (⟨rfl, rfl, gk0, gk1⟩)
set_option maxHeartbeats 4000000 in
set_option maxRecDepth 100000 in
theorem c_ruleAt (l : Launch) (D : va_G) (cy : Nat → ClassId) (sa : Nat → Addr) (hfl : l.stackTraces = false) (ad : Nat → Nat) (n : Nat) (M : Nat → Int → Int) (hn : n ≤ 8) (x : Int) (hx : inR x) : Ct l D cy sa yX2_ruleAt cX2_ruleAt 2 (some (.object "Obligary$Rule")) 6 1 6 (cl cy (sa 100) ad n M) [.ref (ad 0), vi x] (fun v ws2 => ∃ r : Nat, r < n ∧ x = (r : Int) ∧ v = some (.ref (ad (8 + 2 * r))) ∧ ws2 = cl cy (sa 100) ad n M) (fun E ws2 => E = xIO ∧ ws2 = cl cy (sa 100) ad n M ∧ (x < 0 ∨ (n : Int) ≤ x)) := by
  refine Ct.of (own := RX2) (lc := [(0, .ref (ad 0)), (1, vi x)]) (by decide +kernel) hfl (Nat.le_of_ble_eq_true rfl) rfl rfl ?_
  intro p e s m args below meth c A C hex hnm
  generalize hQ : vx_MQ below (Qo D (fun v ws2 => ∃ r : Nat, r < n ∧ x = (r : Int) ∧ v = some (.ref (ad (8 + 2 * r))) ∧ ws2 = cl cy (sa 100) ad n M) A) (Xo D (fun E ws2 => E = xIO ∧ ws2 = cl cy (sa 100) ad n M ∧ (x < 0 ∨ (n : Int) ≤ x)) A) args s 1 6 A = Q
  replace hQ := hQ.symm
  obtain ⟨hx1, hx2⟩ := hx
  refine V.iload_n C dX2_ruleAt_0 1 rfl ?_
  refine V.if_lt C 15 dX2_ruleAt_1 (by decide) ⟨by omega, by omega⟩ (fun h1 => ?_) (fun h1 => ?_)
  · skip
    rw [hQ]
    exact V.throw_IOOBE C hex 5 rfl dX2_ruleAt_15 dX2_ruleAt_18 dX2_ruleAt_19 dX2_ruleAt_21 dX2_ruleAt_24 (by decide) (Nat.le_of_ble_eq_true rfl) (by decide) (by decide) ⟨by decide, by decide⟩ (⟨rfl, rfl, by omega⟩)
  · skip
    refine V.iload_n C dX2_ruleAt_4 1 rfl ?_
    refine V.aload_n C dX2_ruleAt_5 0 rfl ?_
    refine V.getf C (v := .ref (ad 5)) 0 cl_0 rfl inX2 1 (by decide) fl_X2_19 (fun _ h => h) rfl dX2_ruleAt_6 ?_
    refine V.callV C (As := []) (st := [vi x]) (wr := []) kV_X2_39 (c_size l D cy sa hfl ad n M) rfl 5 cl_5 rfl rfl rfl (Nat.le_of_ble_eq_true rfl) ⟨by decide, by decide⟩ ⟨by decide, by decide⟩ dX2_ruleAt_9 (fun _ _ h => h.elim) (fun v1 w2 r3 => ?_)
    obtain ⟨rfl, hw2⟩ := r3
    rw [hw2]
    show V D 2 A p l e (rmL 6 1 6) s m args below meth c Q 0 0 (cl cy (sa 100) ad n M) 12 [(0, .ref (ad 0)), (1, vi x)] [vi (n : Int), vi x]
    refine V.icmp_lt C 25 dX2_ruleAt_12 (by decide) ⟨by omega, by omega⟩ ⟨by omega, by omega⟩ (fun h12 => ?_) (fun h12 => ?_)
    · skip
      obtain ⟨r, rfl⟩ : ∃ r : Nat, x = (r : Int) := ⟨x.toNat, by omega⟩
      have hr : r < n := by omega
      refine V.aload_n C dX2_ruleAt_25 0 rfl ?_
      refine V.getf C (v := .ref (ad 5)) 0 cl_0 rfl inX2 1 (by decide) fl_X2_19 (fun _ h => h) rfl dX2_ruleAt_26 ?_
      refine V.iload_n C dX2_ruleAt_29 1 rfl ?_
      refine V.callV C (As := [vi (r : Int)]) (st := []) (wr := []) kV_X2_43 (c_get l D cy sa hfl ad n M r hr hn) rfl 5 cl_5 rfl rfl rfl (Nat.le_of_ble_eq_true rfl) ⟨by decide, by decide⟩ ⟨by decide, by decide⟩ dX2_ruleAt_30 (fun _ _ h => h.elim) (fun v4 w5 r6 => ?_)
      obtain ⟨rfl, hw5⟩ := r6
      rw [hw5]
      show V D 2 A p l e (rmL 6 1 6) s m args below meth c Q 0 0 (cl cy (sa 100) ad n M) 33 [(0, .ref (ad 0)), (1, vi (r : Int))] [.ref (ad (8 + 2 * r))]
      refine V.cast C (8 + 2 * r) (cl_r hr) rfl cl_X2_47 dX2_ruleAt_33 ?_
      rw [hQ]
      exact V.aret C (Or.inl ⟨_, rfl⟩) dX2_ruleAt_36 (by decide) (by decide) (⟨r, hr, rfl, rfl, rfl⟩)
    · skip
      rw [hQ]
      exact V.throw_IOOBE C hex 5 rfl dX2_ruleAt_15 dX2_ruleAt_18 dX2_ruleAt_19 dX2_ruleAt_21 dX2_ruleAt_24 (by decide) (Nat.le_of_ble_eq_true rfl) (by decide) (by decide) ⟨by decide, by decide⟩ (⟨rfl, rfl, by omega⟩)
set_option maxHeartbeats 4000000 in
set_option maxRecDepth 100000 in
theorem c_ruleAt_ok (l : Launch) (D : va_G) (cy : Nat → ClassId) (sa : Nat → Addr) (hfl : l.stackTraces = false) (ad : Nat → Nat) (n : Nat) (M : Nat → Int → Int) (hn : n ≤ 8) (r : Nat) (hr : r < n) : Ct l D cy sa yX2_ruleAt cX2_ruleAt 2 (some (.object "Obligary$Rule")) 6 0 0 (cl cy (sa 100) ad n M) [.ref (ad 0), vi (r : Int)] (fun v ws2 => v = some (.ref (ad (8 + 2 * r))) ∧ ws2 = cl cy (sa 100) ad n M) no_x := by
  refine Ct.of (own := RX2) (lc := [(0, .ref (ad 0)), (1, vi (r : Int))]) (by decide +kernel) hfl (Nat.le_of_ble_eq_true rfl) rfl rfl ?_
  intro p e s m args below meth c A C hex hnm
  generalize hQ : vx_MQ below (Qo D (fun v ws2 => v = some (.ref (ad (8 + 2 * r))) ∧ ws2 = cl cy (sa 100) ad n M) A) (Xo D no_x A) args s 0 0 A = Q
  replace hQ := hQ.symm
  refine V.iload_n C dX2_ruleAt_0 1 rfl ?_
  refine V.if_lt C 15 dX2_ruleAt_1 (by decide) ⟨by omega, by omega⟩ (fun h1 => (by exfalso; omega)) (fun h1 => ?_)
  refine V.iload_n C dX2_ruleAt_4 1 rfl ?_
  refine V.aload_n C dX2_ruleAt_5 0 rfl ?_
  refine V.getf C (v := .ref (ad 5)) 0 cl_0 rfl inX2 1 (by decide) fl_X2_19 (fun _ h => h) rfl dX2_ruleAt_6 ?_
  refine V.callV C (As := []) (st := [vi (r : Int)]) (wr := []) kV_X2_39 (c_size l D cy sa hfl ad n M) rfl 5 cl_5 rfl rfl rfl (Nat.le_of_ble_eq_true rfl) ⟨by decide, by decide⟩ ⟨by decide, by decide⟩ dX2_ruleAt_9 (fun _ _ h => h.elim) (fun v1 w2 r3 => ?_)
  obtain ⟨rfl, hw2⟩ := r3
  rw [hw2]
  show V D 2 A p l e (rmL 6 0 0) s m args below meth c Q 0 0 (cl cy (sa 100) ad n M) 12 [(0, .ref (ad 0)), (1, vi (r : Int))] [vi (n : Int), vi (r : Int)]
  refine V.icmp_lt C 25 dX2_ruleAt_12 (by decide) ⟨by omega, by omega⟩ ⟨by omega, by omega⟩ (fun h12 => ?_) (fun h12 => (by exfalso; omega))
  refine V.aload_n C dX2_ruleAt_25 0 rfl ?_
  refine V.getf C (v := .ref (ad 5)) 0 cl_0 rfl inX2 1 (by decide) fl_X2_19 (fun _ h => h) rfl dX2_ruleAt_26 ?_
  refine V.iload_n C dX2_ruleAt_29 1 rfl ?_
  refine V.callV C (As := [vi (r : Int)]) (st := []) (wr := []) kV_X2_43 (c_get l D cy sa hfl ad n M r hr hn) rfl 5 cl_5 rfl rfl rfl (Nat.le_of_ble_eq_true rfl) ⟨by decide, by decide⟩ ⟨by decide, by decide⟩ dX2_ruleAt_30 (fun _ _ h => h.elim) (fun v4 w5 r6 => ?_)
  obtain ⟨rfl, hw5⟩ := r6
  rw [hw5]
  show V D 2 A p l e (rmL 6 0 0) s m args below meth c Q 0 0 (cl cy (sa 100) ad n M) 33 [(0, .ref (ad 0)), (1, vi (r : Int))] [.ref (ad (8 + 2 * r))]
  refine V.cast C (8 + 2 * r) (cl_r hr) rfl cl_X2_47 dX2_ruleAt_33 ?_
  rw [hQ]
  exact V.aret C (Or.inl ⟨_, rfl⟩) dX2_ruleAt_36 (by decide) (by decide) (⟨rfl, rfl⟩)
