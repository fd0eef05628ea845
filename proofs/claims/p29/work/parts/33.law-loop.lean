/-! the law's loop -/
set_option maxHeartbeats 4000000 in
set_option maxRecDepth 100000 in
theorem law_loop {p : Program} {l : Launch} {e : Env} {s : State} {m : MethodId} {args : Array Value} {below : List Frame} {meth : Method} {c : Code} {D : va_G} {cy : Nat → ClassId} {sa : Nat → Addr} {A : Nat → Prop} {Q : State → Prop} (hfl : l.stackTraces = false) (C : Cx D cy sa RL cL_law 11 (some .boolean) A p l s m args meth c) {o g : Nat} (kend : ∀ (k2 n2 : Nat) (ws : va_W) (lc : List (Nat × Value)), k2 ≤ 600074 → n2 ≤ 7301550 → V D 11 A p l e room_1 s m args below meth c Q k2 n2 ws 579 lc [vi 1]) : ∀ (fz : Nat) (k n : Nat) (i : Int), 0 ≤ i → i ≤ 50 → (k : Int) ≤ 100 + 1310 * i → (n : Int) ≤ 3000 + 7860 * i → (50 - i).toNat < fz → LV D cy sa A p l e s m args below meth c Q o g k n 14 [(3, vi i)] [] := by
  intro fz
  induction fz with
  | zero => intro k n i _ _ _ _ hf; exact absurd hf (Nat.not_lt_zero _)
  | succ fz ih =>
    intro k n i i0 i1 hk hn hfz
    intro f ad nr M h td q rq nd ho hci hla hf
    subst ho
    have hn8 := hci.2.2.1
    have back : i < 50 → ∀ k2 n2 : Nat, k2 ≤ k + 1310 → n2 ≤ n + 7860 → LV D cy sa A p l e s m args below meth c Q (ad 0) g k2 n2 532 [(3, vi i)] [] := by
      intro i2 k2 n2 hk2 hn2 f ad2 nr M h td q rq nd ho hci hla hf
      refine V.iinc C (lc2 := [(3, vi (i + 1)), (0, .ref (sa 101)), (1, .ref (ad 0)), (2, .ref g)]) dL_law_532 0 rfl (by decide) rfl ?_
      refine V.goto C 14 dL_law_535 (by decide) ?_
      exact ih k2 n2 (i + 1) (by omega) (by omega) (by omega) (by omega) (by omega) f ad2 nr M h td q rq nd ho hci hla hf
    show V D 11 A p l e room_1 s m args below meth c Q k n ([(g, arI cy 1 f)] ++ cl cy (sa 100) ad nr M) 14 [(3, vi i), (0, .ref (sa 101)), (1, .ref (ad 0)), (2, .ref g)] []
    refine V.iload_n C dL_law_14 0 rfl ?_
    refine V.bipush C dL_law_15 (by decide) ?_
    refine V.icmp_ge C 538 dL_law_17 (by decide) ⟨by omega, by omega⟩ ⟨by decide, by decide⟩ (fun h17 => ?_) (fun h17 => ?_)
    · skip
      refine V.iconst C dL_law_538 ?_
      refine V.istore_n C (lc2 := [(3, vi 0), (0, .ref (sa 101)), (1, .ref (ad 0)), (2, .ref g)]) dL_law_539 (by decide) rfl ?_
      refine V.iconst C dL_law_540 ?_
      refine V.istore C (lc2 := [(4, vi 0), (3, vi 0), (0, .ref (sa 101)), (1, .ref (ad 0)), (2, .ref g)]) dL_law_541 (by decide) rfl ?_
      have loop543 : ∀ (fz : Nat) (ky : Nat) (ny : Nat) (M2 : Nat → Int → Int) (rr : Int) (sm : Int), (0 ≤ rr ∧ rr ≤ (nr : Int) ∧ (ky : Int) ≤ k + 12 * rr ∧ (ny : Int) ≤ n + 72 * rr) → (sm = SF q rr.toNat) → (CI h td nr q rq nd M2) → (((nr : Int) + 1 - rr).toNat < fz) → V D 11 A p l e room_1 s m args below meth c Q ky ny ([(g, arI cy 1 f)] ++ cl cy (sa 100) ad nr M2) 543 [(4, vi rr), (3, vi sm), (0, .ref (sa 101)), (1, .ref (ad 0)), (2, .ref g)] [] := by
        intro fz
        induction fz with
        | zero => intro ky ny M2 rr sm hrr hsm hc2 hf; exact absurd hf (Nat.not_lt_zero _)
        | succ fz ih543 =>
          intro ky ny M2 rr sm hrr hsm hc2 hf543
          refine V.iload C dL_law_543 0 rfl ?_
          refine V.aload_n C dL_law_545 3 rfl ?_
          refine V.callVc C (wr := [(g, arI cy 1 f)]) (As := []) (st := [vi rr]) (b := ad 0) kV_L_51 (c_rules l D cy sa hfl ad nr M2 h td q rq nd hc2) 0 cl_0 rfl rfl rfl (Nat.le_of_ble_eq_true rfl) ⟨by decide, by decide⟩ ⟨by show _ ≤ 600074; omega, by show _ ≤ 7301550; omega⟩ dL_law_546 (fun _ _ h => h.elim) (fun v1 w1 r1 => ?_)
          obtain ⟨rfl, M1, hw1, hc1⟩ := r1
          rw [hw1]
          show V D 11 A p l e room_1 s m args below meth c Q (ky + 6) (ny + 36) ([(g, arI cy 1 f)] ++ cl cy (sa 100) ad nr M1) 549 [(4, vi rr), (3, vi sm), (0, .ref (sa 101)), (1, .ref (ad 0)), (2, .ref g)] [vi (nr : Int), vi rr]
          refine V.icmp_ge C 567 dL_law_549 (by decide) ⟨by omega, by omega⟩ ⟨by omega, by omega⟩ (fun h549 => ?_) (fun h549 => ?_)
          · skip
            have hs1 := SF.rng hc2 (m := rr.toNat) (by omega)
            have hs2 := SF.rng hc2 (Nat.le_refl nr)
            refine V.iload_n C dL_law_567 1 rfl ?_
            refine V.aload_n C dL_law_568 4 rfl ?_
            refine V.iconst C dL_law_569 ?_
            refine V.iald C (v := SF q nr) 0 rfl (by omega) (by omega) (by decide) (ld_ar (by omega) hf) dL_law_570 ?_
            refine V.icmp_ne C 578 dL_law_571 (by decide) ⟨by omega, by omega⟩ ⟨by omega, by omega⟩ (fun h571 => (by exact absurd (hsm.trans (by rw [show rr.toNat = nr by omega])) h571)) (fun h571 => ?_)
            refine V.iconst C dL_law_574 ?_
            refine V.goto C 579 dL_law_575 (by decide) ?_
            exact kend _ _ _ _ (by omega) (by omega)
          · skip
            refine V.iload_n C dL_law_552 1 rfl ?_
            refine V.aload_n C dL_law_553 3 rfl ?_
            refine V.iload C dL_law_554 0 rfl ?_
            have kz2 : kRule nr rr = 0 := kRule_0i ⟨by omega, by omega⟩
            refine V.callVc C (wr := [(g, arI cy 1 f)]) (As := [vi rr]) (st := [vi sm]) (b := ad 0) kV_L_88 (c_finished l D cy sa hfl ad nr M1 h td q rq nd hc1 rr ⟨by omega, by omega⟩) 0 cl_0 rfl rfl rfl (Nat.le_of_ble_eq_true rfl) ⟨by decide, by decide⟩ ⟨by show _ ≤ 600074; omega, by show _ ≤ 7301550; omega⟩ dL_law_556 (fun E9 w9 hx9 => (by obtain ⟨hx9, -⟩ := hx9; exfalso; omega)) (fun v2 w2 r2 => ?_)
            obtain ⟨-, rfl, M2, hw2, hc2⟩ := r2
            rw [hw2]
            show V D 11 A p l e room_1 s m args below meth c Q (ky + 6 + 6) (ny + 36 + 36) ([(g, arI cy 1 f)] ++ cl cy (sa 100) ad nr M2) 559 [(4, vi rr), (3, vi sm), (0, .ref (sa 101)), (1, .ref (ad 0)), (2, .ref g)] [vi (q rr.toNat 8), vi sm]
            obtain ⟨fi, hfi⟩ : ∃ y9, y9 = q rr.toNat 8 := ⟨_, rfl⟩
            rw [← hfi]
            have e1 : SF q (rr + 1).toNat = SF q rr.toNat + q rr.toNat 8 := by rw [show (rr + 1).toNat = rr.toNat + 1 by omega]; rfl
            refine V.iadd C dL_law_559 ?_
            refine V.istore_n C (lc2 := [(3, vi (sm + fi)), (4, vi rr), (0, .ref (sa 101)), (1, .ref (ad 0)), (2, .ref g)]) dL_law_560 (by decide) rfl ?_
            refine V.iinc C (lc2 := [(4, vi (rr + 1)), (3, vi (sm + fi)), (0, .ref (sa 101)), (1, .ref (ad 0)), (2, .ref g)]) dL_law_561 1 rfl (by decide) rfl ?_
            refine V.goto C 543 dL_law_564 (by decide) ?_
            exact ih543 (ky + 6 + 6) (ny + 36 + 36) M2 (rr + 1) (sm + fi) (by omega) (by rw [hsm, hfi, e1]) hc2 (by omega)
      exact loop543 _ k n M 0 0 (by omega) rfl hci (Nat.lt_succ_self _)
    · skip
      replace back := back (by omega)
      refine V.aload_n C dL_law_20 1 rfl ?_
      refine V.iconst C dL_law_21 ?_
      refine V.iload_n C dL_law_22 0 rfl ?_
      refine V.imul C dL_law_23 ?_
      refine V.callS C (As := [.ref (sa 101), vi (2 * i)]) (st := []) (wr := []) kS_L_55 (c_cell l D cy sa hfl _ (2 * i) ⟨by omega, by omega⟩) rfl rfl rfl (Nat.le_of_ble_eq_true rfl) ⟨by decide, by decide⟩ ⟨by show _ ≤ 600074; omega, by show _ ≤ 7301550; omega⟩ dL_law_24 (fun _ _ h => h.elim) (fun v1 w2 r3 => ?_)
      obtain ⟨⟨v, hv, rfl⟩, hw2⟩ := r3
      rw [hw2]
      show V D 11 A p l e room_1 s m args below meth c Q k n ([(g, arI cy 1 f)] ++ cl cy (sa 100) ad nr M) 27 [(3, vi i), (0, .ref (sa 101)), (1, .ref (ad 0)), (2, .ref g)] [vi v]
      refine V.istore C (lc2 := [(4, vi v), (3, vi i), (0, .ref (sa 101)), (1, .ref (ad 0)), (2, .ref g)]) dL_law_27 (by decide) rfl ?_
      refine V.aload_n C dL_law_29 2 rfl ?_
      refine V.iconst C dL_law_30 ?_
      refine V.iload_n C dL_law_31 1 rfl ?_
      refine V.imul C dL_law_32 ?_
      refine V.iconst C dL_law_33 ?_
      refine V.iadd C dL_law_34 ?_
      refine V.callS C (As := [.ref (sa 101), vi ((2 * i) + 1)]) (st := []) (wr := []) kS_L_55 (c_cell l D cy sa hfl _ ((2 * i) + 1) ⟨by omega, by omega⟩) rfl rfl rfl (Nat.le_of_ble_eq_true rfl) ⟨by decide, by decide⟩ ⟨by show _ ≤ 600074; omega, by show _ ≤ 7301550; omega⟩ dL_law_35 (fun _ _ h => h.elim) (fun v4 w5 r6 => ?_)
      obtain ⟨⟨w, hw, rfl⟩, hw5⟩ := r6
      rw [hw5]
      show V D 11 A p l e room_1 s m args below meth c Q k n ([(g, arI cy 1 f)] ++ cl cy (sa 100) ad nr M) 38 [(4, vi v), (3, vi i), (0, .ref (sa 101)), (1, .ref (ad 0)), (2, .ref g)] [vi w]
      refine V.istore C (lc2 := [(5, vi w), (4, vi v), (3, vi i), (0, .ref (sa 101)), (1, .ref (ad 0)), (2, .ref g)]) dL_law_38 (by decide) rfl ?_
      refine V.iload C dL_law_40 1 rfl ?_
      refine V.bipush C dL_law_42 (by decide) ?_
      refine V.callS C (As := [vi v, vi 10]) (st := []) (wr := []) kS_L_61 (c_low l D cy sa hfl _ v 10 hv ⟨by omega, by omega⟩) rfl rfl rfl (Nat.le_of_ble_eq_true rfl) ⟨by decide, by decide⟩ ⟨by show _ ≤ 600074; omega, by show _ ≤ 7301550; omega⟩ dL_law_44 (fun _ _ h => h.elim) (fun v7 w8 r9 => ?_)
      obtain ⟨rfl, hw8⟩ := r9
      rw [hw8]
      show V D 11 A p l e room_1 s m args below meth c Q k n ([(g, arI cy 1 f)] ++ cl cy (sa 100) ad nr M) 47 [(5, vi w), (4, vi v), (3, vi i), (0, .ref (sa 101)), (1, .ref (ad 0)), (2, .ref g)] [vi (lowF v 10)]
      obtain ⟨wt, hwt⟩ : ∃ y9, y9 = lowF v 10 := ⟨_, rfl⟩
      rw [← hwt]
      have rwt := lowF_rng (v := v) (n := 10) (by omega)
      rw [← hwt] at rwt
      skip
      refine V.istore C (lc2 := [(6, vi wt), (5, vi w), (4, vi v), (3, vi i), (0, .ref (sa 101)), (1, .ref (ad 0)), (2, .ref g)]) dL_law_47 (by decide) rfl ?_
      refine V.aload_n C dL_law_49 5 rfl ?_
      refine V.callVc C (wr := [(g, arI cy 1 f)]) (As := []) (st := []) (b := ad 0) kV_L_51 (c_rules l D cy sa hfl ad nr M h td q rq nd hci) 0 cl_0 rfl rfl rfl (Nat.le_of_ble_eq_true rfl) ⟨by decide, by decide⟩ ⟨by show _ ≤ 600074; omega, by show _ ≤ 7301550; omega⟩ dL_law_50 (fun _ _ h => h.elim) (fun v3 w3 r3 => ?_)
      obtain ⟨rfl, M3, hw3, hc3⟩ := r3
      rw [hw3]
      show V D 11 A p l e room_1 s m args below meth c Q (k + 6) (n + 36) ([(g, arI cy 1 f)] ++ cl cy (sa 100) ad nr M3) 53 [(6, vi wt), (5, vi w), (4, vi v), (3, vi i), (0, .ref (sa 101)), (1, .ref (ad 0)), (2, .ref g)] [vi (nr : Int)]
      refine V.istore C (lc2 := [(7, vi (nr : Int)), (6, vi wt), (5, vi w), (4, vi v), (3, vi i), (0, .ref (sa 101)), (1, .ref (ad 0)), (2, .ref g)]) dL_law_53 (by decide) rfl ?_
      refine V.iload C dL_law_55 0 rfl ?_
      refine V.if_eq C 72 dL_law_57 (by decide) ⟨by omega, by omega⟩ (fun h57 => ?_) (fun h57 => ?_)
      · skip
        exact V.sub [0, 1, 2, 3, 4, 5, 6, 7] rfl (law_c72 hfl C (k := k + 6) (n := n + 36) (by omega) (by omega) g f ad nr M3 h td q rq nd hc3 hla hf i v w wt hv hw (fun k2 n2 a9 b9 => back k2 n2 (by omega) (by omega)) (by omega))
      · skip
        refine V.iload C dL_law_60 1 rfl ?_
        refine V.if_ne C 186 dL_law_62 (by decide) ⟨by omega, by omega⟩ (fun h62 => ?_) (fun h62 => ?_)
        · skip
          refine V.iload C dL_law_186 1 rfl ?_
          refine V.iconst C dL_law_188 ?_
          refine V.icmp_ge C 301 dL_law_189 (by decide) ⟨by omega, by omega⟩ ⟨by decide, by decide⟩ (fun h189 => ?_) (fun h189 => ?_)
          · skip
            refine V.iload C dL_law_301 1 rfl ?_
            refine V.iconst C dL_law_303 ?_
            refine V.icmp_ne C 359 dL_law_304 (by decide) ⟨by omega, by omega⟩ ⟨by decide, by decide⟩ (fun h304 => ?_) (fun h304 => ?_)
            · skip
              refine V.iload C dL_law_359 1 rfl ?_
              refine V.iconst C dL_law_361 ?_
              refine V.icmp_ne C 407 dL_law_362 (by decide) ⟨by omega, by omega⟩ ⟨by decide, by decide⟩ (fun h362 => ?_) (fun h362 => ?_)
              · skip
                refine V.iload C dL_law_407 1 rfl ?_
                refine V.iconst C dL_law_409 ?_
                refine V.icmp_ne C 459 dL_law_410 (by decide) ⟨by omega, by omega⟩ ⟨by decide, by decide⟩ (fun h410 => ?_) (fun h410 => ?_)
                · skip
                  refine V.iload C dL_law_459 1 rfl ?_
                  refine V.bipush C dL_law_461 (by decide) ?_
                  refine V.icmp_ge C 492 dL_law_463 (by decide) ⟨by omega, by omega⟩ ⟨by decide, by decide⟩ (fun h463 => ?_) (fun h463 => ?_)
                  · skip
                    exact V.sub [0, 1, 2, 3, 4, 5, 6, 7] rfl (law_c492 hfl C (k := k + 6) (n := n + 36) (by omega) (by omega) g f ad nr M3 h td q rq nd hc3 hla hf i v w wt hv hw (fun k2 n2 a9 b9 => back k2 n2 (by omega) (by omega)) )
                  · skip
                    exact V.sub [0, 1, 2, 3, 4, 5, 6, 7] rfl (law_c466 hfl C (k := k + 6) (n := n + 36) (by omega) (by omega) g f ad nr M3 h td q rq nd hc3 hla hf i v w wt hv hw (fun k2 n2 a9 b9 => back k2 n2 (by omega) (by omega)) (by omega))
                · skip
                  exact V.sub [0, 1, 2, 3, 4, 5, 6, 7] rfl (law_c413 hfl C (k := k + 6) (n := n + 36) (by omega) (by omega) g f ad nr M3 h td q rq nd hc3 hla hf i v w wt hv hw (fun k2 n2 a9 b9 => back k2 n2 (by omega) (by omega)) (by omega))
              · skip
                exact V.sub [0, 1, 2, 3, 4, 5, 6, 7] rfl (law_c365 hfl C (k := k + 6) (n := n + 36) (by omega) (by omega) g f ad nr M3 h td q rq nd hc3 hla hf i v w wt hv hw (fun k2 n2 a9 b9 => back k2 n2 (by omega) (by omega)) )
            · skip
              exact V.sub [0, 1, 2, 3, 4, 5, 6, 7] rfl (law_c307 hfl C (k := k + 6) (n := n + 36) (by omega) (by omega) g f ad nr M3 h td q rq nd hc3 hla hf i v w wt hv hw (fun k2 n2 a9 b9 => back k2 n2 (by omega) (by omega)) (by omega))
          · skip
            exact V.sub [0, 1, 2, 3, 4, 5, 6, 7] rfl (law_c192 hfl C (k := k + 6) (n := n + 36) (by omega) (by omega) g f ad nr M3 h td q rq nd hc3 hla hf i v w wt hv hw (fun k2 n2 a9 b9 => back k2 n2 (by omega) (by omega)) )
        · skip
          refine V.iload C dL_law_65 0 rfl ?_
          refine V.bipush C dL_law_67 (by decide) ?_
          refine V.icmp_ge C 186 dL_law_69 (by decide) ⟨by omega, by omega⟩ ⟨by decide, by decide⟩ (fun h69 => ?_) (fun h69 => ?_)
          · skip
            refine V.iload C dL_law_186 1 rfl ?_
            refine V.iconst C dL_law_188 ?_
            refine V.icmp_ge C 301 dL_law_189 (by decide) ⟨by omega, by omega⟩ ⟨by decide, by decide⟩ (fun h189 => ?_) (fun h189 => ?_)
            · skip
              refine V.iload C dL_law_301 1 rfl ?_
              refine V.iconst C dL_law_303 ?_
              refine V.icmp_ne C 359 dL_law_304 (by decide) ⟨by omega, by omega⟩ ⟨by decide, by decide⟩ (fun h304 => ?_) (fun h304 => ?_)
              · skip
                refine V.iload C dL_law_359 1 rfl ?_
                refine V.iconst C dL_law_361 ?_
                refine V.icmp_ne C 407 dL_law_362 (by decide) ⟨by omega, by omega⟩ ⟨by decide, by decide⟩ (fun h362 => ?_) (fun h362 => ?_)
                · skip
                  refine V.iload C dL_law_407 1 rfl ?_
                  refine V.iconst C dL_law_409 ?_
                  refine V.icmp_ne C 459 dL_law_410 (by decide) ⟨by omega, by omega⟩ ⟨by decide, by decide⟩ (fun h410 => ?_) (fun h410 => ?_)
                  · skip
                    refine V.iload C dL_law_459 1 rfl ?_
                    refine V.bipush C dL_law_461 (by decide) ?_
                    refine V.icmp_ge C 492 dL_law_463 (by decide) ⟨by omega, by omega⟩ ⟨by decide, by decide⟩ (fun h463 => ?_) (fun h463 => ?_)
                    · skip
                      exact V.sub [0, 1, 2, 3, 4, 5, 6, 7] rfl (law_c492 hfl C (k := k + 6) (n := n + 36) (by omega) (by omega) g f ad nr M3 h td q rq nd hc3 hla hf i v w wt hv hw (fun k2 n2 a9 b9 => back k2 n2 (by omega) (by omega)) )
                    · skip
                      exact V.sub [0, 1, 2, 3, 4, 5, 6, 7] rfl (law_c466 hfl C (k := k + 6) (n := n + 36) (by omega) (by omega) g f ad nr M3 h td q rq nd hc3 hla hf i v w wt hv hw (fun k2 n2 a9 b9 => back k2 n2 (by omega) (by omega)) (by omega))
                  · skip
                    exact V.sub [0, 1, 2, 3, 4, 5, 6, 7] rfl (law_c413 hfl C (k := k + 6) (n := n + 36) (by omega) (by omega) g f ad nr M3 h td q rq nd hc3 hla hf i v w wt hv hw (fun k2 n2 a9 b9 => back k2 n2 (by omega) (by omega)) (by omega))
                · skip
                  exact V.sub [0, 1, 2, 3, 4, 5, 6, 7] rfl (law_c365 hfl C (k := k + 6) (n := n + 36) (by omega) (by omega) g f ad nr M3 h td q rq nd hc3 hla hf i v w wt hv hw (fun k2 n2 a9 b9 => back k2 n2 (by omega) (by omega)) )
              · skip
                exact V.sub [0, 1, 2, 3, 4, 5, 6, 7] rfl (law_c307 hfl C (k := k + 6) (n := n + 36) (by omega) (by omega) g f ad nr M3 h td q rq nd hc3 hla hf i v w wt hv hw (fun k2 n2 a9 b9 => back k2 n2 (by omega) (by omega)) (by omega))
            · skip
              exact V.sub [0, 1, 2, 3, 4, 5, 6, 7] rfl (law_c192 hfl C (k := k + 6) (n := n + 36) (by omega) (by omega) g f ad nr M3 h td q rq nd hc3 hla hf i v w wt hv hw (fun k2 n2 a9 b9 => back k2 n2 (by omega) (by omega)) )
          · skip
            exact V.sub [0, 1, 2, 3, 4, 5, 6, 7] rfl (law_c72 hfl C (k := k + 6) (n := n + 36) (by omega) (by omega) g f ad nr M3 h td q rq nd hc3 hla hf i v w wt hv hw (fun k2 n2 a9 b9 => back k2 n2 (by omega) (by omega)) (by omega))
