/-! the law's own methods -/
theorem const_L : Cond.constant RL 7 2147483647 ∈ GW := gw2 (i := 175) (by decide +kernel) (by decide +kernel)
section ROWS5
variable {p : Program} {l : Launch} {e : Env} {R : Room} {s : State} {m : MethodId} {args : Array Value} {below : List Frame} {meth : Method} {c : Code}
variable {D : va_G} {cy : Nat → ClassId} {sa : Nat → Addr} {own : String} {cc : ByteArray} {nL : Nat} {ret : Option FieldType} {A : Nat → Prop} {Q : State → Prop} {k n : Nat} {ws : va_W} {pc : Nat} {lc : List (Nat × Value)} {st : List Value}
theorem V.ldcI (C : Cx D cy sa RL cc nL ret A p l s m args meth c) (d : decode cc pc = .ok (.ldc 7, 2)) (kk : V D nL A p l e R s m args below meth c Q k n ws (pc + 2) lc (vi 2147483647 :: st)) : V D nL A p l e R s m args below meth c Q k n ws pc lc st := by
  intro H locs ls hP hD hS hl
  have h := kk H locs ls hP hD hS hl
  rw [show vi 2147483647 = .int (2147483647 : Int32) from congrArg Value.int (by decide)] at h
  exact lv_ldc C.exec C.bytes C.ow (C.hts _ const_L) d h
/-- the script -/
theorem V.sld (C : Cx D cy sa own cc nL ret A p l s m args meth c) {b L : Nat} {xs : Nat → Int32} (hX : va_X b L xs s s.heap) (hbl : b < s.heap.size) (hbA : ¬ A b) (hL : L ≤ 65536) {i : Int} (h0 : 0 ≤ i) (h1 : i < (L : Int)) (d : decode cc pc = .ok (.iaload, 1))
    (kk : V D nL A p l e R s m args below meth c Q k n ws (pc + 1) lc (vi (xs i.toNat).toInt :: st)) : V D nL A p l e R s m args below meth c Q k n ws pc lc (vi i :: .ref b :: st) := by
  intro H locs ls hP hD hS hl
  have h := kk H locs ls hP hD hS hl
  rw [show (vi (xs i.toNat).toInt) = .int (xs (zI i).toNatClampNeg) by rw [zI_clamp ⟨by omega, by omega⟩]; show Value.int _ = _; rw [zI_of]] at h
  exact va_sld C.exec C.bytes hX hbl hbA hS (zI_in h0 h1 hL) d h
theorem V.slen9 (C : Cx D cy sa own cc nL ret A p l s m args meth c) {b L : Nat} {xs : Nat → Int32} (hX : va_X b L xs s s.heap) (hbl : b < s.heap.size) (hbA : ¬ A b) (d : decode cc pc = .ok (.arraylength, 1))
    (kk : V D nL A p l e R s m args below meth c Q k n ws (pc + 1) lc (vi (L : Int) :: st)) : V D nL A p l e R s m args below meth c Q k n ws pc lc (.ref b :: st) := by
  intro H locs ls hP hD hS hl
  have h := kk H locs ls hP hD hS hl
  rw [show (vi (L : Int)) = .int (Int32.ofNat L) by show Value.int _ = _; rw [zI_nat]; rfl] at h
  exact va_slen C.exec C.bytes hX hbl hbA hS d h
end ROWS5
theorem cell_in {k : Int} (h0 : 0 ≤ k) (h1 : k ≤ 99) : inR (7919 * (k + 3) * (k + 11)) := by
  have a : 0 ≤ 7919 * (k + 3) := by omega
  have b : 7919 * (k + 3) ≤ 807738 := by omega
  have c := Int.mul_nonneg a (show 0 ≤ k + 11 by omega)
  have d := Int.mul_le_mul b (show k + 11 ≤ 110 by omega) (by omega) (by decide : (0 : Int) ≤ 807738)
  exact ⟨by omega, by omega⟩
/-- the day seen last, of the due days before dt -/
def lastD (p : Int → Bool) (dt last : Int) : Prop := last = -1 ∨ ∃ e9, 0 ≤ e9 ∧ e9 < dt ∧ last = dk p 0 e9
set_option maxHeartbeats 4000000 in
set_option maxRecDepth 100000 in
theorem c_low (l : Launch) (D : va_G) (cy : Nat → ClassId) (sa : Nat → Addr) (hfl : l.stackTraces = false) (ws : va_W) (v n : Int) (hv : inR v) (hn : 1 ≤ n ∧ n ≤ 1000) : Ct l D cy sa yL_low cL_low 2 (some .int) 0 0 0 ws [vi v, vi n] (fun w ws2 => w = some (vi (lowF v n)) ∧ ws2 = ws) no_x := by
  refine Ct.of (own := RL) (lc := [(0, vi v), (1, vi n)]) (by decide +kernel) hfl (Nat.le_of_ble_eq_true rfl) rfl rfl ?_
  intro p e s m args below meth c A C hex hnm
  generalize hQ : vx_MQ below (Qo D (fun w ws2 => w = some (vi (lowF v n)) ∧ ws2 = ws) A) (Xo D no_x A) args s 0 0 A = Q
  replace hQ := hQ.symm
  refine V.iload_n C dL_low_0 0 rfl ?_
  refine V.ldcI C dL_low_1 ?_
  refine V.iand C (z := (zI v &&& (2147483647 : Int32)).toInt) dL_low_3 (by rw [zI_of, show zI 2147483647 = (2147483647 : Int32) by decide]) ?_
  refine V.iload_n C dL_low_4 1 rfl ?_
  refine V.irem C dL_low_5 (zI_inR _) (and_nn _) ⟨by omega, by omega⟩ (by omega) ?_
  rw [hQ]
  exact V.iret C dL_low_6 (by decide) (by decide) (⟨rfl, rfl⟩)
set_option maxHeartbeats 4000000 in
set_option maxRecDepth 100000 in
theorem c_cell (l : Launch) (D : va_G) (cy : Nat → ClassId) (sa : Nat → Addr) (hfl : l.stackTraces = false) (ws : va_W) (k : Int) (hk0 : 0 ≤ k ∧ k ≤ 99) : Ct l D cy sa yL_cell cL_cell 2 (some .int) 0 0 0 ws [.ref (sa 101), vi k] (fun w ws2 => (∃ y, inR y ∧ w = some (vi y)) ∧ ws2 = ws) no_x := by
  refine Ct.of (own := RL) (lc := [(0, .ref (sa 101)), (1, vi k)]) (by decide +kernel) hfl (Nat.le_of_ble_eq_true rfl) rfl rfl ?_
  intro p e s m args below meth c A C hex hnm
  generalize hQ : vx_MQ below (Qo D (fun w ws2 => (∃ y, inR y ∧ w = some (vi y)) ∧ ws2 = ws) A) (Xo D no_x A) args s 0 0 A = Q
  replace hQ := hQ.symm
  obtain ⟨L, xs, hL, hX, hbA⟩ := C.ev.2.2.2.2.2.2.2.2.2
  have hbl : sa 101 < s.heap.size := by
    obtain ⟨c9, h9, -⟩ := hX
    exact (Array.getElem?_eq_some_iff.mp h9).1
  refine V.iload_n C dL_cell_0 1 rfl ?_
  refine V.aload_n C dL_cell_1 0 rfl ?_
  refine V.slen9 C hX hbl hbA dL_cell_2 ?_
  refine V.icmp_ge C 12 dL_cell_3 (by decide) ⟨by omega, by omega⟩ ⟨by omega, by omega⟩ (fun h3 => ?_) (fun h3 => ?_)
  · skip
    refine V.sipush C dL_cell_12 (by decide) ?_
    refine V.iload_n C dL_cell_15 1 rfl ?_
    refine V.iconst C dL_cell_16 ?_
    refine V.iadd C dL_cell_17 ?_
    refine V.imul C dL_cell_18 ?_
    refine V.iload_n C dL_cell_19 1 rfl ?_
    refine V.bipush C dL_cell_20 (by decide) ?_
    refine V.iadd C dL_cell_22 ?_
    refine V.imul C dL_cell_23 ?_
    rw [hQ]
    exact V.iret C dL_cell_24 (by decide) (by decide) (⟨⟨_, cell_in (by omega) (by omega), rfl⟩, rfl⟩)
  · skip
    refine V.aload_n C dL_cell_6 0 rfl ?_
    refine V.iload_n C dL_cell_7 1 rfl ?_
    refine V.sld C hX hbl hbA (by omega) (by omega) (by omega) dL_cell_8 ?_
    refine V.goto C 24 dL_cell_9 (by decide) ?_
    rw [hQ]
    exact V.iret C dL_cell_24 (by decide) (by decide) (⟨⟨_, zI_inR _, rfl⟩, rfl⟩)
set_option maxHeartbeats 4000000 in
set_option maxRecDepth 100000 in
theorem c_areDue (l : Launch) (D : va_G) (cy : Nat → ClassId) (sa : Nat → Addr) (hfl : l.stackTraces = false) (ad : Nat → Nat) (n : Nat) (M : Nat → Int → Int) (h : Int → Bool) (td : Int) (q : Nat → Nat → Int) (rq nd : Nat → Nat) (hci : CI h td n q rq nd M) (x y : Int) (hx : 0 ≤ x ∧ x < (n : Int)) (hy : 0 ≤ y ∧ y < 720) : Ct l D cy sa yL_areDue cL_areDue 8 (some .boolean) 9 1200 7200 (cl cy (sa 100) ad n M) [.ref (ad 0), vi x, vi y] (fun v ws2 => v = some (vi (bI true)) ∧ ∃ M2, ws2 = cl cy (sa 100) ad n M2 ∧ CI h td n q rq nd M2) no_x := by
  refine Ct.of (own := RL) (lc := [(0, .ref (ad 0)), (1, vi x), (2, vi y)]) (by decide +kernel) hfl (Nat.le_of_ble_eq_true rfl) rfl rfl ?_
  intro p e s m args below meth c A C hex hnm
  generalize hQ : vx_MQ below (Qo D (fun v ws2 => v = some (vi (bI true)) ∧ ∃ M2, ws2 = cl cy (sa 100) ad n M2 ∧ CI h td n q rq nd M2) A) (Xo D no_x A) args s 1200 7200 A = Q
  replace hQ := hQ.symm
  have hn8 := hci.2.2.1
  refine V.iconst C dL_areDue_0 ?_
  refine V.istore_n C (lc2 := [(3, vi (-1)), (0, .ref (ad 0)), (1, vi x), (2, vi y)]) dL_areDue_1 (by decide) rfl ?_
  refine V.aload_n C dL_areDue_2 1 rfl ?_
  refine V.iload_n C dL_areDue_3 2 rfl ?_
  have kz1 : kRule n x = 0 := kRule_0i ⟨by omega, by omega⟩
  refine V.callV C (As := [vi x]) (st := []) (wr := []) kV_L_8 (c_duties l D cy sa hfl ad n M h td q rq nd hci x ⟨by omega, by omega⟩) rfl 0 cl_0 rfl rfl rfl (Nat.le_of_ble_eq_true rfl) ⟨by decide, by decide⟩ ⟨by show _ ≤ 1200; omega, by show _ ≤ 7200; omega⟩ dL_areDue_4 (fun E9 w9 hx9 => (by obtain ⟨hx9, -⟩ := hx9; exfalso; omega)) (fun v1 w1 r1 => ?_)
  obtain ⟨-, rfl, M1, hw1, hc1⟩ := r1
  rw [hw1]
  show V D 8 A p l e (rmL 9 1200 7200) s m args below meth c Q 6 36 (cl cy (sa 100) ad n M1) 7 [(3, vi (-1)), (0, .ref (ad 0)), (1, vi x), (2, vi y)] [vi (ct (dueR h (q x.toNat)) 0 720)]
  obtain ⟨N, hN⟩ : ∃ y9, y9 = ct (dueR h (q x.toNat)) 0 720 := ⟨_, rfl⟩
  rw [← hN]
  have hN0 : 0 ≤ N ∧ N ≤ 720 := by have := ct_rng (dueR h (q x.toNat)) 0 720 (by decide); omega
  refine V.istore C (lc2 := [(4, vi N), (3, vi (-1)), (0, .ref (ad 0)), (1, vi x), (2, vi y)]) dL_areDue_7 (by decide) rfl ?_
  refine V.aload_n C dL_areDue_9 2 rfl ?_
  refine V.iload_n C dL_areDue_10 3 rfl ?_
  refine V.iload C dL_areDue_11 0 rfl ?_
  have kz2 : kRP n x N = 0 := kRP_0i ⟨by omega, by omega⟩ (by omega)
  refine V.callV C (As := [vi x, vi N]) (st := []) (wr := []) kV_L_14 (c_dueDay l D cy sa hfl ad n M1 h td q rq nd hc1 x ⟨by omega, by omega⟩ N ⟨by omega, by omega⟩) rfl 0 cl_0 rfl rfl rfl (Nat.le_of_ble_eq_true rfl) ⟨by decide, by decide⟩ ⟨by show _ ≤ 1200; omega, by show _ ≤ 7200; omega⟩ dL_areDue_13 (fun E9 w9 hx9 => (by obtain ⟨hx9, -⟩ := hx9; exfalso; omega)) (fun v2 w2 r2 => ?_)
  obtain ⟨-, rfl, M2, hw2, hc2⟩ := r2
  rw [hw2]
  show V D 8 A p l e (rmL 9 1200 7200) s m args below meth c Q 12 72 (cl cy (sa 100) ad n M2) 16 [(4, vi N), (3, vi (-1)), (0, .ref (ad 0)), (1, vi x), (2, vi y)] [vi (dk (dueR h (q x.toNat)) 0 N)]
  rw [show dk (dueR h (q x.toNat)) 0 N = -1 from dk_none (by decide) (by omega) (by omega)]
  refine V.iconst C dL_areDue_16 ?_
  refine V.icmp_ne C 24 dL_areDue_17 (by decide) ⟨by decide, by decide⟩ ⟨by decide, by decide⟩ (fun h17 => (by exact absurd rfl h17)) (fun h17 => ?_)
  refine V.iconst C dL_areDue_20 ?_
  refine V.goto C 25 dL_areDue_21 (by decide) ?_
  refine V.istore C (lc2 := [(5, vi 1), (4, vi N), (3, vi (-1)), (0, .ref (ad 0)), (1, vi x), (2, vi y)]) dL_areDue_25 (by decide) rfl ?_
  refine V.iconst C dL_areDue_27 ?_
  refine V.istore C (lc2 := [(6, vi 0), (5, vi 1), (4, vi N), (3, vi (-1)), (0, .ref (ad 0)), (1, vi x), (2, vi y)]) dL_areDue_28 (by decide) rfl ?_
  have loop30 : ∀ (fz : Nat) (kz : Nat) (nz : Nat) (M1 : Nat → Int → Int) (last : Int) (dt : Int), (0 ≤ dt ∧ (N ≤ 60 → dt ≤ N ∧ (kz : Int) ≤ 12 + 18 * dt) ∧ (60 < N → dt ≤ N + 12 ∧ 13 * (kz : Int) ≤ 156 + 18 * dt)) → (nz ≤ 6 * kz) → (lastD (dueR h (q x.toNat)) dt last) → (CI h td n q rq nd M1) → ((N + 13 - dt).toNat < fz) → V D 8 A p l e (rmL 9 1200 7200) s m args below meth c Q kz nz (cl cy (sa 100) ad n M1) 30 [(6, vi dt), (5, vi 1), (4, vi N), (3, vi last), (0, .ref (ad 0)), (1, vi x), (2, vi y)] [] := by
    intro fz
    induction fz with
    | zero => intro kz nz M1 last dt hdt hnz hlast hc1 hf; exact absurd hf (Nat.not_lt_zero _)
    | succ fz ih30 =>
      intro kz nz M1 last dt hdt hnz hlast hc1 hf30
      refine V.iload C dL_areDue_30 0 rfl ?_
      refine V.iload C dL_areDue_32 2 rfl ?_
      refine V.icmp_ge C 124 dL_areDue_34 (by decide) ⟨by omega, by omega⟩ ⟨by omega, by omega⟩ (fun h34 => ?_) (fun h34 => ?_)
      · skip
        refine V.aload_n C dL_areDue_124 4 rfl ?_
        refine V.iload_n C dL_areDue_125 5 rfl ?_
        refine V.iload_n C dL_areDue_126 6 rfl ?_
        have kz3 : kRD n x y = 0 := kRD_0i ⟨by omega, by omega⟩ (by omega) (by omega)
        refine V.callV C (As := [vi x, vi y]) (st := []) (wr := []) kV_L_22 (c_nextDue l D cy sa hfl ad n M1 h td q rq nd hc1 x ⟨by omega, by omega⟩ y ⟨by omega, by omega⟩) rfl 0 cl_0 rfl rfl rfl (Nat.le_of_ble_eq_true rfl) ⟨by decide, by decide⟩ ⟨by show _ ≤ 1200; omega, by show _ ≤ 7200; omega⟩ dL_areDue_127 (fun E9 w9 hx9 => (by obtain ⟨hx9, -⟩ := hx9; exfalso; omega)) (fun v3 w3 r3 => ?_)
        obtain ⟨-, rfl, M3, hw3, hc3⟩ := r3
        rw [hw3]
        show V D 8 A p l e (rmL 9 1200 7200) s m args below meth c Q (kz + 6) (nz + 36) (cl cy (sa 100) ad n M3) 130 [(6, vi dt), (5, vi 1), (4, vi N), (3, vi last), (0, .ref (ad 0)), (1, vi x), (2, vi y)] [vi (fst (dueR h (q x.toNat)) y)]
        obtain ⟨nx, hnx⟩ : ∃ y9, y9 = fst (dueR h (q x.toNat)) y := ⟨_, rfl⟩
        rw [← hnx]
        have n1 := fst_rng (p := dueR h (q x.toNat)) (a := y)
        rw [← hnx] at n1
        have n2 : -1 ≤ nx ∧ nx < 720 := by omega
        refine V.istore C (lc2 := [(6, vi nx), (5, vi 1), (4, vi N), (3, vi last), (0, .ref (ad 0)), (1, vi x), (2, vi y)]) dL_areDue_130 (by decide) rfl ?_
        refine V.iload C dL_areDue_132 1 rfl ?_
        refine V.if_eq C 173 dL_areDue_134 (by decide) ⟨by decide, by decide⟩ (fun h134 => (by exact absurd h134 (by decide))) (fun h134 => ?_)
        refine V.aload_n C dL_areDue_137 4 rfl ?_
        refine V.iload_n C dL_areDue_138 5 rfl ?_
        refine V.iload_n C dL_areDue_139 6 rfl ?_
        have kz4 : kRD n x y = 0 := kRD_0i ⟨by omega, by omega⟩ (by omega) (by omega)
        refine V.callV C (As := [vi x, vi y]) (st := []) (wr := []) kV_L_25 (c_nextDueByWalking l D cy sa hfl ad n M3 h td q rq nd hc3 x ⟨by omega, by omega⟩ y ⟨by omega, by omega⟩) rfl 0 cl_0 rfl rfl rfl (Nat.le_of_ble_eq_true rfl) ⟨by decide, by decide⟩ ⟨by show _ ≤ 1200; omega, by show _ ≤ 7200; omega⟩ dL_areDue_140 (fun E9 w9 hx9 => (by obtain ⟨hx9, -⟩ := hx9; exfalso; omega)) (fun v4 w4 r4 => ?_)
        obtain ⟨-, rfl, M4, hw4, hc4⟩ := r4
        rw [hw4]
        show V D 8 A p l e (rmL 9 1200 7200) s m args below meth c Q (kz + 6 + 6) (nz + 36 + 36) (cl cy (sa 100) ad n M4) 143 [(6, vi nx), (5, vi 1), (4, vi N), (3, vi last), (0, .ref (ad 0)), (1, vi x), (2, vi y)] [vi (fst (dueR h (q x.toNat)) y)]
        rw [show fst (dueR h (q x.toNat)) y = nx from hnx.symm]
        refine V.iload C dL_areDue_143 0 rfl ?_
        refine V.icmp_ne C 173 dL_areDue_145 (by decide) ⟨by omega, by omega⟩ ⟨by omega, by omega⟩ (fun h145 => (by exact absurd rfl h145)) (fun h145 => ?_)
        refine V.iload C dL_areDue_148 0 rfl ?_
        refine V.iconst C dL_areDue_150 ?_
        refine V.icmp_eq C 169 dL_areDue_151 (by decide) ⟨by omega, by omega⟩ ⟨by decide, by decide⟩ (fun h151 => ?_) (fun h151 => ?_)
        · skip
          refine V.iconst C dL_areDue_169 ?_
          refine V.goto C 174 dL_areDue_170 (by decide) ?_
          refine V.widen (k2 := 1200) (n2 := 7200) (by omega) (by omega) ?_
          show V D 8 A p l e (rmL 9 1200 7200) s m args below meth c Q 1200 7200 (cl cy (sa 100) ad n M4) 174 [(6, vi nx), (5, vi 1), (4, vi N), (3, vi last), (0, .ref (ad 0)), (1, vi x), (2, vi y)] [vi (bI true)]
          rw [hQ]
          exact V.zret C dL_areDue_174 (by decide) (by decide) (⟨rfl, _, rfl, hc4⟩)
        · skip
          refine V.iload C dL_areDue_154 0 rfl ?_
          refine V.iload_n C dL_areDue_156 6 rfl ?_
          refine V.icmp_lt C 173 dL_areDue_157 (by decide) ⟨by omega, by omega⟩ ⟨by omega, by omega⟩ (fun h157 => (by rcases n1 with n1 | n1 <;> omega)) (fun h157 => ?_)
          refine V.aload_n C dL_areDue_160 4 rfl ?_
          refine V.iload C dL_areDue_161 0 rfl ?_
          have kz5 : kDay nx = 0 := kDay_0 (by omega) (by omega)
          refine V.callV C (As := [vi nx]) (st := []) (wr := []) kV_L_18 (c_isWorking l D cy sa hfl ad n M4 h td q rq nd hc4 nx ⟨by omega, by omega⟩) rfl 0 cl_0 rfl rfl rfl (Nat.le_of_ble_eq_true rfl) ⟨by decide, by decide⟩ ⟨by show _ ≤ 1200; omega, by show _ ≤ 7200; omega⟩ dL_areDue_163 (fun E9 w9 hx9 => (by obtain ⟨hx9, -⟩ := hx9; exfalso; omega)) (fun v5 w5 r5 => ?_)
          obtain ⟨-, rfl, M5, hw5, hc5⟩ := r5
          rw [hw5]
          show V D 8 A p l e (rmL 9 1200 7200) s m args below meth c Q (kz + 6 + 6 + 6) (nz + 36 + 36 + 36) (cl cy (sa 100) ad n M5) 166 [(6, vi nx), (5, vi 1), (4, vi N), (3, vi last), (0, .ref (ad 0)), (1, vi x), (2, vi y)] [vi (bI (wk h nx))]
          rw [show wk h nx = true from dueR_wk (n1.resolve_left h151).2.2]
          refine V.if_eqB C 173 dL_areDue_166 (by decide) (fun h166 => (by cases h166)) (fun h166 => ?_)
          refine V.iconst C dL_areDue_169 ?_
          refine V.goto C 174 dL_areDue_170 (by decide) ?_
          refine V.widen (k2 := 1200) (n2 := 7200) (by omega) (by omega) ?_
          show V D 8 A p l e (rmL 9 1200 7200) s m args below meth c Q 1200 7200 (cl cy (sa 100) ad n M5) 174 [(6, vi nx), (5, vi 1), (4, vi N), (3, vi last), (0, .ref (ad 0)), (1, vi x), (2, vi y)] [vi (bI true)]
          rw [hQ]
          exact V.zret C dL_areDue_174 (by decide) (by decide) (⟨rfl, _, rfl, hc5⟩)
      · skip
        refine V.iload C dL_areDue_37 1 rfl ?_
        refine V.if_eq C 124 dL_areDue_39 (by decide) ⟨by decide, by decide⟩ (fun h39 => (by exact absurd h39 (by decide))) (fun h39 => ?_)
        refine V.aload_n C dL_areDue_42 4 rfl ?_
        refine V.iload_n C dL_areDue_43 5 rfl ?_
        refine V.iload C dL_areDue_44 0 rfl ?_
        have kz6 : kRP n x dt = 0 := kRP_0i ⟨by omega, by omega⟩ (by omega)
        refine V.callV C (As := [vi x, vi dt]) (st := []) (wr := []) kV_L_14 (c_dueDay l D cy sa hfl ad n M1 h td q rq nd hc1 x ⟨by omega, by omega⟩ dt ⟨by omega, by omega⟩) rfl 0 cl_0 rfl rfl rfl (Nat.le_of_ble_eq_true rfl) ⟨by decide, by decide⟩ ⟨by show _ ≤ 1200; omega, by show _ ≤ 7200; omega⟩ dL_areDue_46 (fun E9 w9 hx9 => (by obtain ⟨hx9, -⟩ := hx9; exfalso; omega)) (fun v6 w6 r6 => ?_)
        obtain ⟨-, rfl, M6, hw6, hc6⟩ := r6
        rw [hw6]
        show V D 8 A p l e (rmL 9 1200 7200) s m args below meth c Q (kz + 6) (nz + 36) (cl cy (sa 100) ad n M6) 49 [(6, vi dt), (5, vi 1), (4, vi N), (3, vi last), (0, .ref (ad 0)), (1, vi x), (2, vi y)] [vi (dk (dueR h (q x.toNat)) 0 dt)]
        obtain ⟨day, hday⟩ : ∃ y9, y9 = dk (dueR h (q x.toNat)) 0 dt := ⟨_, rfl⟩
        rw [← hday]
        obtain ⟨d1, d2, d3, d4⟩ := dk_ok (p := dueR h (q x.toNat)) (a := 0) (k := dt) (by omega) (by omega)
        rw [← hday] at d1 d2 d3 d4
        have d5 : last < day ∧ -1 ≤ last := by
          rcases hlast with e9 | ⟨e9, e0, e1, e2⟩
          · omega
          · have := dk_mono (p := dueR h (q x.toNat)) (a := 0) (j := e9) (k := dt) e0 e1 (by omega)
            have := dk_rng (p := dueR h (q x.toNat)) (a := 0) (k := e9)
            omega
        have d6 := dueR_wk d3
        refine V.istore C (lc2 := [(7, vi day), (6, vi dt), (5, vi 1), (4, vi N), (3, vi last), (0, .ref (ad 0)), (1, vi x), (2, vi y)]) dL_areDue_49 (by decide) rfl ?_
        refine V.iload C dL_areDue_51 0 rfl ?_
        refine V.iload_n C dL_areDue_53 4 rfl ?_
        refine V.icmp_le C 97 dL_areDue_54 (by decide) ⟨by omega, by omega⟩ ⟨by omega, by omega⟩ (fun h54 => (by omega)) (fun h54 => ?_)
        refine V.iload C dL_areDue_57 0 rfl ?_
        refine V.sipush C dL_areDue_59 (by decide) ?_
        refine V.icmp_ge C 97 dL_areDue_62 (by decide) ⟨by omega, by omega⟩ ⟨by decide, by decide⟩ (fun h62 => (by omega)) (fun h62 => ?_)
        refine V.aload_n C dL_areDue_65 5 rfl ?_
        refine V.iload C dL_areDue_66 0 rfl ?_
        have kz7 : kDay day = 0 := kDay_0 (by omega) (by omega)
        refine V.callV C (As := [vi day]) (st := []) (wr := []) kV_L_18 (c_isWorking l D cy sa hfl ad n M6 h td q rq nd hc6 day ⟨by omega, by omega⟩) rfl 0 cl_0 rfl rfl rfl (Nat.le_of_ble_eq_true rfl) ⟨by decide, by decide⟩ ⟨by show _ ≤ 1200; omega, by show _ ≤ 7200; omega⟩ dL_areDue_68 (fun E9 w9 hx9 => (by obtain ⟨hx9, -⟩ := hx9; exfalso; omega)) (fun v7 w7 r7 => ?_)
        obtain ⟨-, rfl, M7, hw7, hc7⟩ := r7
        rw [hw7]
        show V D 8 A p l e (rmL 9 1200 7200) s m args below meth c Q (kz + 6 + 6) (nz + 36 + 36) (cl cy (sa 100) ad n M7) 71 [(7, vi day), (6, vi dt), (5, vi 1), (4, vi N), (3, vi last), (0, .ref (ad 0)), (1, vi x), (2, vi y)] [vi (bI (wk h day))]
        rw [show wk h day = true from d6]
        refine V.if_eqB C 97 dL_areDue_71 (by decide) (fun h71 => (by cases h71)) (fun h71 => ?_)
        refine V.iload C dL_areDue_74 1 rfl ?_
        refine V.if_eq C 93 dL_areDue_76 (by decide) ⟨by omega, by omega⟩ (fun h76 => ?_) (fun h76 => ?_)
        · skip
          refine V.iconst C dL_areDue_93 ?_
          refine V.goto C 98 dL_areDue_94 (by decide) ?_
          refine V.istore C (lc2 := [(5, vi 1), (7, vi day), (6, vi dt), (4, vi N), (3, vi last), (0, .ref (ad 0)), (1, vi x), (2, vi y)]) dL_areDue_98 (by decide) rfl ?_
          refine V.iload C dL_areDue_100 1 rfl ?_
          refine V.istore_n C (lc2 := [(3, vi day), (5, vi 1), (7, vi day), (6, vi dt), (4, vi N), (0, .ref (ad 0)), (1, vi x), (2, vi y)]) dL_areDue_102 (by decide) rfl ?_
          refine V.iload C dL_areDue_103 3 rfl ?_
          refine V.iload C dL_areDue_105 4 rfl ?_
          refine V.bipush C dL_areDue_107 (by decide) ?_
          refine V.icmp_le C 117 dL_areDue_109 (by decide) ⟨by omega, by omega⟩ ⟨by decide, by decide⟩ (fun h109 => ?_) (fun h109 => ?_)
          · skip
            refine V.iconst C dL_areDue_117 ?_
            refine V.iadd C dL_areDue_118 ?_
            refine V.istore C (lc2 := [(6, vi (dt + 1)), (3, vi day), (5, vi 1), (7, vi day), (4, vi N), (0, .ref (ad 0)), (1, vi x), (2, vi y)]) dL_areDue_119 (by decide) rfl ?_
            refine V.goto C 30 dL_areDue_121 (by decide) ?_
            exact V.sub [0, 2, 4, 1, 5, 6, 7] rfl (ih30 (kz + 6 + 6) (nz + 36 + 36) M7 day (dt + 1) (by omega) (by omega) (Or.inr ⟨dt, by omega, by omega, hday⟩) hc7 (by omega))
          · skip
            refine V.bipush C dL_areDue_112 (by decide) ?_
            refine V.goto C 118 dL_areDue_114 (by decide) ?_
            refine V.iadd C dL_areDue_118 ?_
            refine V.istore C (lc2 := [(6, vi (dt + 13)), (3, vi day), (5, vi 1), (7, vi day), (4, vi N), (0, .ref (ad 0)), (1, vi x), (2, vi y)]) dL_areDue_119 (by decide) rfl ?_
            refine V.goto C 30 dL_areDue_121 (by decide) ?_
            exact V.sub [0, 2, 4, 1, 5, 6, 7] rfl (ih30 (kz + 6 + 6) (nz + 36 + 36) M7 day (dt + 13) (by omega) (by omega) (Or.inr ⟨dt, by omega, by omega, hday⟩) hc7 (by omega))
        · skip
          refine V.aload_n C dL_areDue_79 5 rfl ?_
          refine V.iload_n C dL_areDue_80 6 rfl ?_
          refine V.iload C dL_areDue_81 1 rfl ?_
          refine V.iconst C dL_areDue_83 ?_
          refine V.isub C dL_areDue_84 ?_
          have kz8 : kRP n x (dt - 1) = 0 := kRP_0i ⟨by omega, by omega⟩ (by omega)
          refine V.callV C (As := [vi x, vi (dt - 1)]) (st := []) (wr := []) kV_L_14 (c_dueDay l D cy sa hfl ad n M7 h td q rq nd hc7 x ⟨by omega, by omega⟩ (dt - 1) ⟨by omega, by omega⟩) rfl 0 cl_0 rfl rfl rfl (Nat.le_of_ble_eq_true rfl) ⟨by decide, by decide⟩ ⟨by show _ ≤ 1200; omega, by show _ ≤ 7200; omega⟩ dL_areDue_85 (fun E9 w9 hx9 => (by obtain ⟨hx9, -⟩ := hx9; exfalso; omega)) (fun v8 w8 r8 => ?_)
          obtain ⟨-, rfl, M8, hw8, hc8⟩ := r8
          rw [hw8]
          show V D 8 A p l e (rmL 9 1200 7200) s m args below meth c Q (kz + 6 + 6 + 6) (nz + 36 + 36 + 36) (cl cy (sa 100) ad n M8) 88 [(7, vi day), (6, vi dt), (5, vi 1), (4, vi N), (3, vi last), (0, .ref (ad 0)), (1, vi x), (2, vi y)] [vi (dk (dueR h (q x.toNat)) 0 (dt - 1))]
          obtain ⟨day0, hday0⟩ : ∃ y9, y9 = dk (dueR h (q x.toNat)) 0 (dt - 1) := ⟨_, rfl⟩
          rw [← hday0]
          have d7 : day0 < day := by rw [hday0, hday]; exact dk_mono (by omega) (by omega) (by omega)
          have d8 : -1 ≤ day0 := by have := dk_rng (p := dueR h (q x.toNat)) (a := 0) (k := dt - 1); omega
          refine V.iload C dL_areDue_88 0 rfl ?_
          refine V.icmp_ge C 97 dL_areDue_90 (by decide) ⟨by omega, by omega⟩ ⟨by omega, by omega⟩ (fun h90 => (by omega)) (fun h90 => ?_)
          refine V.iconst C dL_areDue_93 ?_
          refine V.goto C 98 dL_areDue_94 (by decide) ?_
          refine V.istore C (lc2 := [(5, vi 1), (7, vi day), (6, vi dt), (4, vi N), (3, vi last), (0, .ref (ad 0)), (1, vi x), (2, vi y)]) dL_areDue_98 (by decide) rfl ?_
          refine V.iload C dL_areDue_100 1 rfl ?_
          refine V.istore_n C (lc2 := [(3, vi day), (5, vi 1), (7, vi day), (6, vi dt), (4, vi N), (0, .ref (ad 0)), (1, vi x), (2, vi y)]) dL_areDue_102 (by decide) rfl ?_
          refine V.iload C dL_areDue_103 3 rfl ?_
          refine V.iload C dL_areDue_105 4 rfl ?_
          refine V.bipush C dL_areDue_107 (by decide) ?_
          refine V.icmp_le C 117 dL_areDue_109 (by decide) ⟨by omega, by omega⟩ ⟨by decide, by decide⟩ (fun h109 => ?_) (fun h109 => ?_)
          · skip
            refine V.iconst C dL_areDue_117 ?_
            refine V.iadd C dL_areDue_118 ?_
            refine V.istore C (lc2 := [(6, vi (dt + 1)), (3, vi day), (5, vi 1), (7, vi day), (4, vi N), (0, .ref (ad 0)), (1, vi x), (2, vi y)]) dL_areDue_119 (by decide) rfl ?_
            refine V.goto C 30 dL_areDue_121 (by decide) ?_
            exact V.sub [0, 2, 4, 1, 5, 6, 7] rfl (ih30 (kz + 6 + 6 + 6) (nz + 36 + 36 + 36) M8 day (dt + 1) (by omega) (by omega) (Or.inr ⟨dt, by omega, by omega, hday⟩) hc8 (by omega))
          · skip
            refine V.bipush C dL_areDue_112 (by decide) ?_
            refine V.goto C 118 dL_areDue_114 (by decide) ?_
            refine V.iadd C dL_areDue_118 ?_
            refine V.istore C (lc2 := [(6, vi (dt + 13)), (3, vi day), (5, vi 1), (7, vi day), (4, vi N), (0, .ref (ad 0)), (1, vi x), (2, vi y)]) dL_areDue_119 (by decide) rfl ?_
            refine V.goto C 30 dL_areDue_121 (by decide) ?_
            exact V.sub [0, 2, 4, 1, 5, 6, 7] rfl (ih30 (kz + 6 + 6 + 6) (nz + 36 + 36 + 36) M8 day (dt + 13) (by omega) (by omega) (Or.inr ⟨dt, by omega, by omega, hday⟩) hc8 (by omega))
  exact loop30 _ 12 72 M2 (-1) 0 (by omega) (by omega) (Or.inl rfl) hc2 (Nat.lt_succ_self _)
