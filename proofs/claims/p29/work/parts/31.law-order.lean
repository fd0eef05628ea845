/-! the law's isOrder -/
theorem gput {cy : Nat → ClassId} {g : Nat} {F : Int → Int} {W : va_W} {v : Int} : ([(g, arI cy 1 F)] ++ W).set 0 (g, .inl (cy 0, 1, .inl (upd (fun j : Nat => zI (F j)) (0 : Int).toNat (zI v)))) = [(g, arI cy 1 (fun j => if j = 0 then v else F j))] ++ W := by rw [ar_upd (by decide)]; rfl
set_option maxHeartbeats 4000000 in
set_option maxRecDepth 100000 in
theorem c_isOrder (l : Launch) (D : va_G) (cy : Nat → ClassId) (sa : Nat → Addr) (hfl : l.stackTraces = false) (ad : Nat → Nat) (n : Nat) (M : Nat → Int → Int) (h : Int → Bool) (td : Int) (q : Nat → Nat → Int) (rq nd : Nat → Nat) (hci : CI h td n q rq nd M) (hla : LA n rq nd) (g : Nat) (f : Int → Int) (hf : f 0 = SF q n) (x : Int) (hx : 0 ≤ x ∧ x < 720) : Ct l D cy sa yL_isOrder cL_isOrder 8 (some .boolean) 9 1200 7200 ([(g, arI cy 1 f)] ++ cl cy (sa 100) ad n M) [.ref (ad 0), vi x, .ref g] (fun v ws2 => v = some (vi (bI true)) ∧ ∃ (q2 : Nat → Nat → Int) (M2 : Nat → Int → Int) (f2 : Int → Int), ws2 = [(g, arI cy 1 f2)] ++ cl cy (sa 100) ad n M2 ∧ CI h td n q2 rq nd M2 ∧ f2 0 = SF q2 n) no_x := by
  refine Ct.of (own := RL) (lc := [(0, .ref (ad 0)), (1, vi x), (2, .ref g)]) (by decide +kernel) hfl (Nat.le_of_ble_eq_true rfl) rfl rfl ?_
  intro p e s m args below meth c A C hex hnm
  generalize hQ : vx_MQ below (Qo D (fun v ws2 => v = some (vi (bI true)) ∧ ∃ (q2 : Nat → Nat → Int) (M2 : Nat → Int → Int) (f2 : Int → Int), ws2 = [(g, arI cy 1 f2)] ++ cl cy (sa 100) ad n M2 ∧ CI h td n q2 rq nd M2 ∧ f2 0 = SF q2 n) A) (Xo D no_x A) args s 1200 7200 A = Q
  replace hQ := hQ.symm
  obtain ⟨-, ⟨-, td0, td1⟩, hn8, -⟩ := id hci
  refine V.iconst C dL_isOrder_0 ?_
  refine V.istore_n C (lc2 := [(3, vi 0), (0, .ref (ad 0)), (1, vi x), (2, .ref g)]) dL_isOrder_1 (by decide) rfl ?_
  refine V.aload_n C dL_isOrder_2 1 rfl ?_
  refine V.iload_n C dL_isOrder_3 2 rfl ?_
  refine V.iconst C dL_isOrder_4 ?_
  have kz1 : kDP x 0 = 0 := kDP_0 (by omega) (by omega) (by omega)
  refine V.callVc C (wr := [(g, arI cy 1 f)]) (As := [vi x, vi 0]) (st := []) (b := ad 0) kV_L_28 (c_order l D cy sa hfl ad n M h td q rq nd hci x ⟨by omega, by omega⟩ 0 ⟨by omega, by omega⟩) 0 cl_0 rfl rfl rfl (Nat.le_of_ble_eq_true rfl) ⟨by decide, by decide⟩ ⟨by show _ ≤ 1200; omega, by show _ ≤ 7200; omega⟩ dL_isOrder_5 (fun E9 w9 hx9 => (by obtain ⟨hx9, -⟩ := hx9; exfalso; omega)) (fun v1 w1 r1 => ?_)
  obtain ⟨-, rfl, M1, hw1, hc1⟩ := r1
  rw [hw1]
  show V D 8 A p l e (rmL 9 1200 7200) s m args below meth c Q 6 36 ([(g, arI cy 1 f)] ++ cl cy (sa 100) ad n M1) 8 [(3, vi 0), (0, .ref (ad 0)), (1, vi x), (2, .ref g)] [vi (ordF h q n rq x 5760 (fo h q) 0)]
  obtain ⟨rv0, hrv0⟩ : ∃ y9, y9 = ordF h q n rq x 5760 (fo h q) 0 := ⟨_, rfl⟩
  rw [← hrv0]
  have hrv0 : rv0 = nxt n rq x (fo h q) := hrv0.trans ordF_0
  have hrv1 := nxt_rng (n := n) (rq := rq) (x := x) (f := fo h q) ⟨by omega, by omega⟩ (fun i _ => fo_rng h q i)
  rw [← hrv0] at hrv1
  refine V.istore C (lc2 := [(4, vi rv0), (3, vi 0), (0, .ref (ad 0)), (1, vi x), (2, .ref g)]) dL_isOrder_8 (by decide) rfl ?_
  refine V.iconst C dL_isOrder_10 ?_
  refine V.istore C (lc2 := [(5, vi 1), (4, vi rv0), (3, vi 0), (0, .ref (ad 0)), (1, vi x), (2, .ref g)]) dL_isOrder_11 (by decide) rfl ?_
  have loop13 : ∀ (fz : Nat) (kz : Nat) (nz : Nat) (q1 : Nat → Nat → Int) (M1 : Nat → Int → Int) (f1 : Int → Int) (pl : Int) (rv : Int), (0 ≤ pl ∧ pl ≤ 12 ∧ (kz : Int) ≤ 6 + 54 * pl) → (nz ≤ 6 * kz) → (rv = nxt n rq x (fo h q1)) → (-1 ≤ rv ∧ rv < (n : Int)) → (CI h td n q1 rq nd M1) → (f1 0 = SF q1 n) → ((13 - pl).toNat < fz) → V D 8 A p l e (rmL 9 1200 7200) s m args below meth c Q kz nz ([(g, arI cy 1 f1)] ++ cl cy (sa 100) ad n M1) 13 [(5, vi 1), (4, vi rv), (3, vi pl), (0, .ref (ad 0)), (1, vi x), (2, .ref g)] [] := by
    intro fz
    induction fz with
    | zero => intro kz nz q1 M1 f1 pl rv hpl hnz hrv hrn hc1 hf1 hf; exact absurd hf (Nat.not_lt_zero _)
    | succ fz ih13 =>
      intro kz nz q1 M1 f1 pl rv hpl hnz hrv hrn hc1 hf1 hf13
      have join151 : (pl < 12 → nxt n rq x (fo h q1) = -1) → V D 8 A p l e (rmL 9 1200 7200) s m args below meth c Q kz nz ([(g, arI cy 1 f1)] ++ cl cy (sa 100) ad n M1) 151 [(5, vi 1), (4, vi rv), (3, vi pl), (0, .ref (ad 0)), (1, vi x), (2, .ref g)] [] := by
        intro  hj
        refine V.iconst C dL_isOrder_151 ?_
        refine V.istore C (lc2 := [(6, vi 0), (5, vi 1), (4, vi rv), (3, vi pl), (0, .ref (ad 0)), (1, vi x), (2, .ref g)]) dL_isOrder_152 (by decide) rfl ?_
        have loop154 : ∀ (fz : Nat) (ky : Nat) (ny : Nat) (M2 : Nat → Int → Int) (rr : Int), (0 ≤ rr ∧ rr ≤ (n : Int) ∧ (ky : Int) ≤ kz + 12 * rr) → (ny ≤ 6 * ky) → (CI h td n q1 rq nd M2) → (((n : Int) + 1 - rr).toNat < fz) → V D 8 A p l e (rmL 9 1200 7200) s m args below meth c Q ky ny ([(g, arI cy 1 f1)] ++ cl cy (sa 100) ad n M2) 154 [(6, vi rr), (5, vi 1), (4, vi rv), (3, vi pl), (0, .ref (ad 0)), (1, vi x), (2, .ref g)] [] := by
          intro fz
          induction fz with
          | zero => intro ky ny M2 rr hrr hny hc2 hf; exact absurd hf (Nat.not_lt_zero _)
          | succ fz ih154 =>
            intro ky ny M2 rr hrr hny hc2 hf154
            refine V.iload C dL_isOrder_154 0 rfl ?_
            refine V.aload_n C dL_isOrder_156 4 rfl ?_
            refine V.callVc C (wr := [(g, arI cy 1 f1)]) (As := []) (st := [vi rr]) (b := ad 0) kV_L_51 (c_rules l D cy sa hfl ad n M2 h td q1 rq nd hc2) 0 cl_0 rfl rfl rfl (Nat.le_of_ble_eq_true rfl) ⟨by decide, by decide⟩ ⟨by show _ ≤ 1200; omega, by show _ ≤ 7200; omega⟩ dL_isOrder_157 (fun _ _ h => h.elim) (fun v2 w2 r2 => ?_)
            obtain ⟨rfl, M2, hw2, hc2⟩ := r2
            rw [hw2]
            show V D 8 A p l e (rmL 9 1200 7200) s m args below meth c Q (ky + 6) (ny + 36) ([(g, arI cy 1 f1)] ++ cl cy (sa 100) ad n M2) 160 [(6, vi rr), (5, vi 1), (4, vi rv), (3, vi pl), (0, .ref (ad 0)), (1, vi x), (2, .ref g)] [vi (n : Int), vi rr]
            refine V.icmp_ge C 206 dL_isOrder_160 (by decide) ⟨by omega, by omega⟩ ⟨by omega, by omega⟩ (fun h160 => ?_) (fun h160 => ?_)
            · skip
              refine V.iload C dL_isOrder_206 1 rfl ?_
              refine V.widen (k2 := 1200) (n2 := 7200) (by omega) (by omega) ?_
              show V D 8 A p l e (rmL 9 1200 7200) s m args below meth c Q 1200 7200 ([(g, arI cy 1 f1)] ++ cl cy (sa 100) ad n M2) 208 [(6, vi rr), (5, vi 1), (4, vi rv), (3, vi pl), (0, .ref (ad 0)), (1, vi x), (2, .ref g)] [vi (bI true)]
              rw [hQ]
              exact V.zret C dL_isOrder_208 (by decide) (by decide) (⟨rfl, q1, M2, f1, rfl, hc2, hf1⟩)
            · skip
              refine V.iload_n C dL_isOrder_163 3 rfl ?_
              refine V.bipush C dL_isOrder_164 (by decide) ?_
              refine V.icmp_ge C 206 dL_isOrder_166 (by decide) ⟨by omega, by omega⟩ ⟨by decide, by decide⟩ (fun h166 => ?_) (fun h166 => ?_)
              · skip
                refine V.iload C dL_isOrder_206 1 rfl ?_
                refine V.widen (k2 := 1200) (n2 := 7200) (by omega) (by omega) ?_
                show V D 8 A p l e (rmL 9 1200 7200) s m args below meth c Q 1200 7200 ([(g, arI cy 1 f1)] ++ cl cy (sa 100) ad n M2) 208 [(6, vi rr), (5, vi 1), (4, vi rv), (3, vi pl), (0, .ref (ad 0)), (1, vi x), (2, .ref g)] [vi (bI true)]
                rw [hQ]
                exact V.zret C dL_isOrder_208 (by decide) (by decide) (⟨rfl, q1, M2, f1, rfl, hc2, hf1⟩)
              · skip
                refine V.iload C dL_isOrder_169 1 rfl ?_
                refine V.if_eq C 206 dL_isOrder_171 (by decide) ⟨by decide, by decide⟩ (fun h171 => (by exact absurd h171 (by decide))) (fun h171 => ?_)
                refine V.aload_n C dL_isOrder_174 4 rfl ?_
                refine V.iload C dL_isOrder_175 0 rfl ?_
                have kz3 : kRule n rr = 0 := kRule_0i ⟨by omega, by omega⟩
                refine V.callVc C (wr := [(g, arI cy 1 f1)]) (As := [vi rr]) (st := []) (b := ad 0) kV_L_31 (c_open l D cy sa hfl ad n M2 h td q1 rq nd hc2 rr ⟨by omega, by omega⟩) 0 cl_0 rfl rfl rfl (Nat.le_of_ble_eq_true rfl) ⟨by decide, by decide⟩ ⟨by show _ ≤ 1200; omega, by show _ ≤ 7200; omega⟩ dL_isOrder_177 (fun E9 w9 hx9 => (by obtain ⟨hx9, -⟩ := hx9; exfalso; omega)) (fun v3 w3 r3 => ?_)
                obtain ⟨-, rfl, M3, hw3, hc3⟩ := r3
                rw [hw3]
                show V D 8 A p l e (rmL 9 1200 7200) s m args below meth c Q (ky + 6 + 6) (ny + 36 + 36) ([(g, arI cy 1 f1)] ++ cl cy (sa 100) ad n M3) 180 [(6, vi rr), (5, vi 1), (4, vi rv), (3, vi pl), (0, .ref (ad 0)), (1, vi x), (2, .ref g)] [vi (dk (dueR h (q1 rr.toNat)) 0 (q1 rr.toNat 8))]
                obtain ⟨dy, hdy⟩ : ∃ y9, y9 = dk (dueR h (q1 rr.toNat)) 0 (q1 rr.toNat 8) := ⟨_, rfl⟩
                rw [← hdy]
                have e5 := nxt_none hla (hj (by omega)) rr.toNat (by omega)
                have e6 : dy = fo h q1 rr.toNat := hdy
                have e7 := fo_rng h q1 rr.toNat
                refine V.istore C (lc2 := [(7, vi dy), (6, vi rr), (5, vi 1), (4, vi rv), (3, vi pl), (0, .ref (ad 0)), (1, vi x), (2, .ref g)]) dL_isOrder_180 (by decide) rfl ?_
                refine V.iload C dL_isOrder_182 0 rfl ?_
                refine V.if_lt C 193 dL_isOrder_184 (by decide) ⟨by omega, by omega⟩ (fun h184 => ?_) (fun h184 => ?_)
                · skip
                  refine V.iconst C dL_isOrder_193 ?_
                  refine V.goto C 198 dL_isOrder_194 (by decide) ?_
                  refine V.istore C (lc2 := [(5, vi 1), (7, vi dy), (6, vi rr), (4, vi rv), (3, vi pl), (0, .ref (ad 0)), (1, vi x), (2, .ref g)]) dL_isOrder_198 (by decide) rfl ?_
                  refine V.iinc C (lc2 := [(6, vi (rr + 1)), (5, vi 1), (7, vi dy), (4, vi rv), (3, vi pl), (0, .ref (ad 0)), (1, vi x), (2, .ref g)]) dL_isOrder_200 2 rfl (by decide) rfl ?_
                  refine V.goto C 154 dL_isOrder_203 (by decide) ?_
                  exact V.sub [0, 1, 3, 4, 5, 6, 7] rfl (ih154 (ky + 6 + 6) (ny + 36 + 36) M3 (rr + 1) (by omega) (by omega) hc3 (by omega))
                · skip
                  refine V.iload C dL_isOrder_187 0 rfl ?_
                  refine V.iload_n C dL_isOrder_189 6 rfl ?_
                  refine V.icmp_le C 197 dL_isOrder_190 (by decide) ⟨by omega, by omega⟩ ⟨by omega, by omega⟩ (fun h190 => (by omega)) (fun h190 => ?_)
                  refine V.iconst C dL_isOrder_193 ?_
                  refine V.goto C 198 dL_isOrder_194 (by decide) ?_
                  refine V.istore C (lc2 := [(5, vi 1), (7, vi dy), (6, vi rr), (4, vi rv), (3, vi pl), (0, .ref (ad 0)), (1, vi x), (2, .ref g)]) dL_isOrder_198 (by decide) rfl ?_
                  refine V.iinc C (lc2 := [(6, vi (rr + 1)), (5, vi 1), (7, vi dy), (4, vi rv), (3, vi pl), (0, .ref (ad 0)), (1, vi x), (2, .ref g)]) dL_isOrder_200 2 rfl (by decide) rfl ?_
                  refine V.goto C 154 dL_isOrder_203 (by decide) ?_
                  exact V.sub [0, 1, 3, 4, 5, 6, 7] rfl (ih154 (ky + 6 + 6) (ny + 36 + 36) M3 (rr + 1) (by omega) (by omega) hc3 (by omega))
        exact loop154 _ kz nz M1 0 (by omega) (by omega) hc1 (Nat.lt_succ_self _)
      refine V.iload C dL_isOrder_13 1 rfl ?_
      refine V.if_lt C 151 dL_isOrder_15 (by decide) ⟨by omega, by omega⟩ (fun h15 => ?_) (fun h15 => ?_)
      · skip
        exact join151 (by intro _; omega)
      · skip
        refine V.iload_n C dL_isOrder_18 2 rfl ?_
        refine V.bipush C dL_isOrder_19 (by decide) ?_
        refine V.icmp_ge C 151 dL_isOrder_21 (by decide) ⟨by omega, by omega⟩ ⟨by decide, by decide⟩ (fun h21 => ?_) (fun h21 => ?_)
        · skip
          exact join151 (by intro _; omega)
        · skip
          refine V.iload C dL_isOrder_24 0 rfl ?_
          refine V.if_eq C 151 dL_isOrder_26 (by decide) ⟨by decide, by decide⟩ (fun h26 => (by exact absurd h26 (by decide))) (fun h26 => ?_)
          have hnx := nxt_spec n rq x (fo h q1)
          rw [← hrv] at hnx
          obtain ⟨r, r0, r1, r2, r3, r4⟩ := hnx.resolve_left (fun e9 => absurd e9.1 (by omega))
          subst r1
          have hsf := SF.rng hc1 (Nat.le_refl n)
          refine V.aload_n C dL_isOrder_29 3 rfl ?_
          refine V.iload C dL_isOrder_30 1 rfl ?_
          have kz4 : kRule n (r : Int) = 0 := kRule_0i ⟨by omega, by omega⟩
          refine V.callVc C (wr := [(g, arI cy 1 f1)]) (As := [vi (r : Int)]) (st := []) (b := ad 0) kV_L_31 (c_open l D cy sa hfl ad n M1 h td q1 rq nd hc1 (r : Int) ⟨by omega, by omega⟩) 0 cl_0 rfl rfl rfl (Nat.le_of_ble_eq_true rfl) ⟨by decide, by decide⟩ ⟨by show _ ≤ 1200; omega, by show _ ≤ 7200; omega⟩ dL_isOrder_32 (fun E9 w9 hx9 => (by obtain ⟨hx9, -⟩ := hx9; exfalso; omega)) (fun v4 w4 r4 => ?_)
          obtain ⟨-, rfl, M4, hw4, hc4⟩ := r4
          rw [hw4]
          show V D 8 A p l e (rmL 9 1200 7200) s m args below meth c Q (kz + 6) (nz + 36) ([(g, arI cy 1 f1)] ++ cl cy (sa 100) ad n M4) 35 [(5, vi 1), (4, vi (r : Int)), (3, vi pl), (0, .ref (ad 0)), (1, vi x), (2, .ref g)] [vi (dk (dueR h (q1 (r : Int).toNat)) 0 (q1 (r : Int).toNat 8))]
          obtain ⟨day, hday⟩ : ∃ y9, y9 = dk (dueR h (q1 (r : Int).toNat)) 0 (q1 (r : Int).toNat 8) := ⟨_, rfl⟩
          rw [← hday]
          have e1 : day = fo h q1 r := hday
          have e0 := fo_rng h q1 r
          refine V.istore C (lc2 := [(6, vi day), (5, vi 1), (4, vi (r : Int)), (3, vi pl), (0, .ref (ad 0)), (1, vi x), (2, .ref g)]) dL_isOrder_35 (by decide) rfl ?_
          refine V.iload C dL_isOrder_37 0 rfl ?_
          refine V.if_lt C 73 dL_isOrder_39 (by decide) ⟨by omega, by omega⟩ (fun h39 => (by omega)) (fun h39 => ?_)
          refine V.iload C dL_isOrder_42 0 rfl ?_
          refine V.iload_n C dL_isOrder_44 5 rfl ?_
          refine V.icmp_gt C 73 dL_isOrder_45 (by decide) ⟨by omega, by omega⟩ ⟨by omega, by omega⟩ (fun h45 => (by omega)) (fun h45 => ?_)
          refine V.aload_n C dL_isOrder_48 4 rfl ?_
          refine V.iload C dL_isOrder_49 2 rfl ?_
          have kz5 : kRule n (r : Int) = 0 := kRule_0i ⟨by omega, by omega⟩
          refine V.callVc C (wr := [(g, arI cy 1 f1)]) (As := [vi (r : Int)]) (st := []) (b := ad 0) kV_L_34 (c_blockedBy l D cy sa hfl ad n M4 h td q1 rq nd hc4 (r : Int) ⟨by omega, by omega⟩) 0 cl_0 rfl rfl rfl (Nat.le_of_ble_eq_true rfl) ⟨by decide, by decide⟩ ⟨by show _ ≤ 1200; omega, by show _ ≤ 7200; omega⟩ dL_isOrder_51 (fun E9 w9 hx9 => (by obtain ⟨hx9, -⟩ := hx9; exfalso; omega)) (fun v5 w5 r5 => ?_)
          obtain ⟨-, rfl, M5, hw5, hc5⟩ := r5
          rw [hw5]
          show V D 8 A p l e (rmL 9 1200 7200) s m args below meth c Q (kz + 6 + 6) (nz + 36 + 36) ([(g, arI cy 1 f1)] ++ cl cy (sa 100) ad n M5) 54 [(6, vi day), (5, vi 1), (4, vi (r : Int)), (3, vi pl), (0, .ref (ad 0)), (1, vi x), (2, .ref g)] [vi (lb n (rq (r : Int).toNat) (fo h q1) (fo h q1 (r : Int).toNat))]
          rw [show lb n (rq (r : Int).toNat) (fo h q1) (fo h q1 (r : Int).toNat) = -1 from r4]
          refine V.iconst C dL_isOrder_54 ?_
          refine V.icmp_ne C 73 dL_isOrder_55 (by decide) ⟨by decide, by decide⟩ ⟨by decide, by decide⟩ (fun h55 => (by exact absurd rfl h55)) (fun h55 => ?_)
          refine V.aload_n C dL_isOrder_58 4 rfl ?_
          refine V.iload_n C dL_isOrder_59 5 rfl ?_
          refine V.iconst C dL_isOrder_60 ?_
          have kz6 : kDP x 0 = 0 := kDP_0 (by omega) (by omega) (by omega)
          refine V.callVc C (wr := [(g, arI cy 1 f1)]) (As := [vi x, vi 0]) (st := []) (b := ad 0) kV_L_28 (c_order l D cy sa hfl ad n M5 h td q1 rq nd hc5 x ⟨by omega, by omega⟩ 0 ⟨by omega, by omega⟩) 0 cl_0 rfl rfl rfl (Nat.le_of_ble_eq_true rfl) ⟨by decide, by decide⟩ ⟨by show _ ≤ 1200; omega, by show _ ≤ 7200; omega⟩ dL_isOrder_61 (fun E9 w9 hx9 => (by obtain ⟨hx9, -⟩ := hx9; exfalso; omega)) (fun v6 w6 r6 => ?_)
          obtain ⟨-, rfl, M6, hw6, hc6⟩ := r6
          rw [hw6]
          show V D 8 A p l e (rmL 9 1200 7200) s m args below meth c Q (kz + 6 + 6 + 6) (nz + 36 + 36 + 36) ([(g, arI cy 1 f1)] ++ cl cy (sa 100) ad n M6) 64 [(6, vi day), (5, vi 1), (4, vi (r : Int)), (3, vi pl), (0, .ref (ad 0)), (1, vi x), (2, .ref g)] [vi (ordF h q1 n rq x 5760 (fo h q1) 0)]
          rw [show ordF h q1 n rq x 5760 (fo h q1) 0 = (r : Int) from ordF_0.trans hrv.symm]
          refine V.iload C dL_isOrder_64 2 rfl ?_
          refine V.icmp_ne C 73 dL_isOrder_66 (by decide) ⟨by omega, by omega⟩ ⟨by omega, by omega⟩ (fun h66 => (by exact absurd rfl h66)) (fun h66 => ?_)
          refine V.iconst C dL_isOrder_69 ?_
          refine V.goto C 74 dL_isOrder_70 (by decide) ?_
          refine V.istore C (lc2 := [(5, vi 1), (6, vi day), (4, vi (r : Int)), (3, vi pl), (0, .ref (ad 0)), (1, vi x), (2, .ref g)]) dL_isOrder_74 (by decide) rfl ?_
          refine V.aload_n C dL_isOrder_76 4 rfl ?_
          refine V.iload C dL_isOrder_77 2 rfl ?_
          have kz7 : kFin h n q1 rq (r : Int) = 0 := kFin_0 r0 r2 r4
          refine V.callVc C (wr := [(g, arI cy 1 f1)]) (As := [vi (r : Int)]) (st := []) (b := ad 0) kV_L_37 (c_finish l D cy sa hfl ad n M6 h td q1 rq nd hc6 (r : Int) ⟨by omega, by omega⟩) 0 cl_0 rfl rfl rfl (Nat.le_of_ble_eq_true rfl) ⟨by decide, by decide⟩ ⟨by show _ ≤ 1200; omega, by show _ ≤ 7200; omega⟩ dL_isOrder_79 (fun E9 w9 hx9 => (by obtain ⟨hx9, -⟩ := hx9; exfalso; omega)) (fun v7 w7 r7 => ?_)
          obtain ⟨-, rfl, M7, hw7, hc7⟩ := r7
          rw [hw7]
          show V D 8 A p l e (rmL 9 1200 7200) s m args below meth c Q (kz + 6 + 6 + 6 + 6) (nz + 36 + 36 + 36 + 36) ([(g, arI cy 1 f1)] ++ cl cy (sa 100) ad n M7) 82 [(5, vi 1), (6, vi day), (4, vi (r : Int)), (3, vi pl), (0, .ref (ad 0)), (1, vi x), (2, .ref g)] [vi (td - fo h q1 (r : Int).toNat)]
          obtain ⟨lt, hlt⟩ : ∃ y9, y9 = td - fo h q1 (r : Int).toNat := ⟨_, rfl⟩
          rw [← hlt]
          replace hc7 : CI h td n (qfin q1 r td) rq nd M7 := hc7
          have e2 : lt = td - fo h q1 r := hlt
          refine V.istore C (lc2 := [(7, vi lt), (5, vi 1), (6, vi day), (4, vi (r : Int)), (3, vi pl), (0, .ref (ad 0)), (1, vi x), (2, .ref g)]) dL_isOrder_82 (by decide) rfl ?_
          refine V.aload_n C dL_isOrder_84 7 rfl ?_
          refine V.iconst C dL_isOrder_85 ?_
          refine V.dup2 C dL_isOrder_86 rfl rfl ?_
          refine V.iald C (v := SF q1 n) 0 rfl (by omega) (by omega) (by decide) (ld_ar (by omega) hf1) dL_isOrder_87 ?_
          refine V.iconst C dL_isOrder_88 ?_
          refine V.iadd C dL_isOrder_89 ?_
          refine V.iast C 0 rfl (by decide) (by decide) (by decide) dL_isOrder_90 gput ?_
          show V D 8 A p l e (rmL 9 1200 7200) s m args below meth c Q (kz + 6 + 6 + 6 + 6) (nz + 36 + 36 + 36 + 36) ([(g, arI cy 1 (fun j => if j = 0 then (SF q1 n) + 1 else f1 j))] ++ cl cy (sa 100) ad n M7) 91 [(7, vi lt), (5, vi 1), (6, vi day), (4, vi (r : Int)), (3, vi pl), (0, .ref (ad 0)), (1, vi x), (2, .ref g)] []
          obtain ⟨f2, hf2⟩ : ∃ y9, y9 = (fun j => if j = 0 then (SF q1 n) + 1 else f1 j) := ⟨_, rfl⟩
          rw [← hf2]
          have hf3 : f2 0 = SF (qfin q1 r td) n := by rw [hf2, SF.fin r0]; rfl
          refine V.iload C dL_isOrder_91 1 rfl ?_
          refine V.if_eq C 134 dL_isOrder_93 (by decide) ⟨by decide, by decide⟩ (fun h93 => (by exact absurd h93 (by decide))) (fun h93 => ?_)
          refine V.iload C dL_isOrder_96 0 rfl ?_
          refine V.aload_n C dL_isOrder_98 5 rfl ?_
          refine V.callVc C (wr := [(g, arI cy 1 f2)]) (As := []) (st := [vi lt]) (b := ad 0) kV_L_40 (c_today l D cy sa hfl ad n M7 h td (qfin q1 r td) rq nd hc7) 0 cl_0 rfl rfl rfl (Nat.le_of_ble_eq_true rfl) ⟨by decide, by decide⟩ ⟨by show _ ≤ 1200; omega, by show _ ≤ 7200; omega⟩ dL_isOrder_99 (fun _ _ h => h.elim) (fun v8 w8 r8 => ?_)
          obtain ⟨rfl, M8, hw8, hc8⟩ := r8
          rw [hw8]
          show V D 8 A p l e (rmL 9 1200 7200) s m args below meth c Q (kz + 6 + 6 + 6 + 6 + 6) (nz + 36 + 36 + 36 + 36 + 36) ([(g, arI cy 1 f2)] ++ cl cy (sa 100) ad n M8) 102 [(7, vi lt), (5, vi 1), (6, vi day), (4, vi (r : Int)), (3, vi pl), (0, .ref (ad 0)), (1, vi x), (2, .ref g)] [vi td, vi lt]
          refine V.iload C dL_isOrder_102 2 rfl ?_
          refine V.isub C dL_isOrder_104 ?_
          refine V.icmp_ne C 134 dL_isOrder_105 (by decide) ⟨by omega, by omega⟩ ⟨by omega, by omega⟩ (fun h105 => (by omega)) (fun h105 => ?_)
          refine V.aload_n C dL_isOrder_108 5 rfl ?_
          refine V.iload C dL_isOrder_109 3 rfl ?_
          have kz9 : kLasts n (qfin q1 r td) (r : Int) = 0 := kLasts_0 ⟨by omega, by omega⟩ (by rw [Int.toNat_natCast, qfin_9]; omega)
          refine V.callVc C (wr := [(g, arI cy 1 f2)]) (As := [vi (r : Int)]) (st := []) (b := ad 0) kV_L_44 (c_lasts l D cy sa hfl ad n M8 h td (qfin q1 r td) rq nd hc8 (r : Int) ⟨by omega, by omega⟩) 0 cl_0 rfl rfl rfl (Nat.le_of_ble_eq_true rfl) ⟨by decide, by decide⟩ ⟨by show _ ≤ 1200; omega, by show _ ≤ 7200; omega⟩ dL_isOrder_111 (fun E9 w9 hx9 => (by obtain ⟨hx9, -⟩ := hx9; exfalso; omega)) (fun v9 w9 r9 => ?_)
          obtain ⟨-, rfl, M9, hw9, hc9⟩ := r9
          rw [hw9]
          show V D 8 A p l e (rmL 9 1200 7200) s m args below meth c Q (kz + 6 + 6 + 6 + 6 + 6 + 6) (nz + 36 + 36 + 36 + 36 + 36 + 36) ([(g, arI cy 1 f2)] ++ cl cy (sa 100) ad n M9) 114 [(7, vi lt), (5, vi 1), (6, vi day), (4, vi (r : Int)), (3, vi pl), (0, .ref (ad 0)), (1, vi x), (2, .ref g)] [vi ((qfin q1 r td) (r : Int).toNat 9 + (qfin q1 r td) (r : Int).toNat 4 - td)]
          obtain ⟨la, hla⟩ : ∃ y9, y9 = (qfin q1 r td) (r : Int).toNat 9 + (qfin q1 r td) (r : Int).toNat 4 - td := ⟨_, rfl⟩
          rw [← hla]
          have p4 := (hc1.2.2.2 r r0).2.1.2.2.2.2.2.2.1
          have e3 : la = td + q1 r 4 - td := by rw [hla, Int.toNat_natCast, qfin_9, qfin_s (by decide) (by decide)]
          refine V.if_lt C 134 dL_isOrder_114 (by decide) ⟨by omega, by omega⟩ (fun h114 => (by omega)) (fun h114 => ?_)
          refine V.aload_n C dL_isOrder_117 5 rfl ?_
          refine V.iload C dL_isOrder_118 3 rfl ?_
          refine V.aload_n C dL_isOrder_120 5 rfl ?_
          refine V.callVc C (wr := [(g, arI cy 1 f2)]) (As := []) (st := [vi (r : Int), .ref (ad 0)]) (b := ad 0) kV_L_40 (c_today l D cy sa hfl ad n M9 h td (qfin q1 r td) rq nd hc9) 0 cl_0 rfl rfl rfl (Nat.le_of_ble_eq_true rfl) ⟨by decide, by decide⟩ ⟨by show _ ≤ 1200; omega, by show _ ≤ 7200; omega⟩ dL_isOrder_121 (fun _ _ h => h.elim) (fun v10 w10 r10 => ?_)
          obtain ⟨rfl, M10, hw10, hc10⟩ := r10
          rw [hw10]
          show V D 8 A p l e (rmL 9 1200 7200) s m args below meth c Q (kz + 6 + 6 + 6 + 6 + 6 + 6 + 6) (nz + 36 + 36 + 36 + 36 + 36 + 36 + 36) ([(g, arI cy 1 f2)] ++ cl cy (sa 100) ad n M10) 124 [(7, vi lt), (5, vi 1), (6, vi day), (4, vi (r : Int)), (3, vi pl), (0, .ref (ad 0)), (1, vi x), (2, .ref g)] [vi td, vi (r : Int), .ref (ad 0)]
          have kz11 : kRD n (r : Int) td = 0 := kRD_0i ⟨by omega, by omega⟩ (by omega) (by omega)
          refine V.callVc C (wr := [(g, arI cy 1 f2)]) (As := [vi (r : Int), vi td]) (st := []) (b := ad 0) kV_L_47 (c_isCovered l D cy sa hfl ad n M10 h td (qfin q1 r td) rq nd hc10 (r : Int) ⟨by omega, by omega⟩ td ⟨by omega, by omega⟩) 0 cl_0 rfl rfl rfl (Nat.le_of_ble_eq_true rfl) ⟨by decide, by decide⟩ ⟨by show _ ≤ 1200; omega, by show _ ≤ 7200; omega⟩ dL_isOrder_124 (fun E9 w9 hx9 => (by obtain ⟨hx9, -⟩ := hx9; exfalso; omega)) (fun v11 w11 r11 => ?_)
          obtain ⟨-, rfl, M11, hw11, hc11⟩ := r11
          rw [hw11]
          show V D 8 A p l e (rmL 9 1200 7200) s m args below meth c Q (kz + 6 + 6 + 6 + 6 + 6 + 6 + 6 + 6) (nz + 36 + 36 + 36 + 36 + 36 + 36 + 36 + 36) ([(g, arI cy 1 f2)] ++ cl cy (sa 100) ad n M11) 127 [(7, vi lt), (5, vi 1), (6, vi day), (4, vi (r : Int)), (3, vi pl), (0, .ref (ad 0)), (1, vi x), (2, .ref g)] [vi (bI (covd ((qfin q1 r td) (r : Int).toNat) td))]
          rw [show covd ((qfin q1 r td) (r : Int).toNat) td = true from covd_t (q := qfin q1 r td r) qfin_9 (by omega) (by rw [qfin_s (by decide) (by decide)]; omega)]
          refine V.if_eqB C 134 dL_isOrder_127 (by decide) (fun h127 => (by cases h127)) (fun h127 => ?_)
          refine V.iconst C dL_isOrder_130 ?_
          refine V.goto C 135 dL_isOrder_131 (by decide) ?_
          refine V.istore C (lc2 := [(5, vi 1), (7, vi lt), (6, vi day), (4, vi (r : Int)), (3, vi pl), (0, .ref (ad 0)), (1, vi x), (2, .ref g)]) dL_isOrder_135 (by decide) rfl ?_
          refine V.iinc C (lc2 := [(3, vi (pl + 1)), (5, vi 1), (7, vi lt), (6, vi day), (4, vi (r : Int)), (0, .ref (ad 0)), (1, vi x), (2, .ref g)]) dL_isOrder_137 4 rfl (by decide) rfl ?_
          refine V.aload_n C dL_isOrder_140 5 rfl ?_
          refine V.iload_n C dL_isOrder_141 6 rfl ?_
          refine V.iconst C dL_isOrder_142 ?_
          have kz12 : kDP x 0 = 0 := kDP_0 (by omega) (by omega) (by omega)
          refine V.callVc C (wr := [(g, arI cy 1 f2)]) (As := [vi x, vi 0]) (st := []) (b := ad 0) kV_L_28 (c_order l D cy sa hfl ad n M11 h td (qfin q1 r td) rq nd hc11 x ⟨by omega, by omega⟩ 0 ⟨by omega, by omega⟩) 0 cl_0 rfl rfl rfl (Nat.le_of_ble_eq_true rfl) ⟨by decide, by decide⟩ ⟨by show _ ≤ 1200; omega, by show _ ≤ 7200; omega⟩ dL_isOrder_143 (fun E9 w9 hx9 => (by obtain ⟨hx9, -⟩ := hx9; exfalso; omega)) (fun v12 w12 r12 => ?_)
          obtain ⟨-, rfl, M12, hw12, hc12⟩ := r12
          rw [hw12]
          show V D 8 A p l e (rmL 9 1200 7200) s m args below meth c Q (kz + 6 + 6 + 6 + 6 + 6 + 6 + 6 + 6 + 6) (nz + 36 + 36 + 36 + 36 + 36 + 36 + 36 + 36 + 36) ([(g, arI cy 1 f2)] ++ cl cy (sa 100) ad n M12) 146 [(3, vi (pl + 1)), (5, vi 1), (7, vi lt), (6, vi day), (4, vi (r : Int)), (0, .ref (ad 0)), (1, vi x), (2, .ref g)] [vi (ordF h (qfin q1 r td) n rq x 5760 (fo h (qfin q1 r td)) 0)]
          obtain ⟨rv2, hrv2⟩ : ∃ y9, y9 = ordF h (qfin q1 r td) n rq x 5760 (fo h (qfin q1 r td)) 0 := ⟨_, rfl⟩
          rw [← hrv2]
          have hrv2a : rv2 = nxt n rq x (fo h (qfin q1 r td)) := hrv2.trans ordF_0
          have hrv3 := nxt_rng (n := n) (rq := rq) (x := x) (f := fo h (qfin q1 r td)) ⟨by omega, by omega⟩ (fun i _ => fo_rng h (qfin q1 r td) i)
          rw [← hrv2a] at hrv3
          refine V.istore C (lc2 := [(4, vi rv2), (3, vi (pl + 1)), (5, vi 1), (7, vi lt), (6, vi day), (0, .ref (ad 0)), (1, vi x), (2, .ref g)]) dL_isOrder_146 (by decide) rfl ?_
          refine V.goto C 13 dL_isOrder_148 (by decide) ?_
          exact V.sub [2, 0, 1, 5, 6, 7] rfl (ih13 (kz + 6 + 6 + 6 + 6 + 6 + 6 + 6 + 6 + 6) (nz + 36 + 36 + 36 + 36 + 36 + 36 + 36 + 36 + 36) (qfin q1 r td) M12 f2 (pl + 1) rv2 (by omega) (by omega) hrv2a (by omega) hc12 hf3 (by omega))
  exact loop13 _ 6 36 q M1 f 0 rv0 (by omega) (by omega) hrv0 (by omega) hc1 hf (Nat.lt_succ_self _)
