theorem V.mmax {p : Program} {l : Launch} {e : Env} {R : Room} {s : State} {m : MethodId} {args : Array Value} {below : List Frame} {meth : Method} {c : Code} {D : va_G} {cy : Nat → ClassId} {sa : Nat → Addr} {own : String} {cc : ByteArray} {nL : Nat} {ret : Option FieldType} {A : Nat → Prop} {Q : State → Prop} {k n : Nat} {ws : va_W} {pc : Nat} {lc : List (Nat × Value)} {st : List Value}
    (C : Cx D cy sa own cc nL ret A p l s m args meth c) {idx : Nat} {x y : Int} (hl : Cond.methodLink own idx yJ9_max_7cf53 ∈ GW) (hf : 1 ≤ R.frames) (hlo : (st.map fun v => v.category).sum + 13 ≤ R.locals) (hk : k ≤ R.cells) (hn : n ≤ R.slots) (hx : inR x) (hy : inR y) (d : decode cc pc = .ok (.invokestatic idx, 3))
    (kk : V D nL A p l e R s m args below meth c Q k n ws (pc + 3) lc (vi (if x < y then y else x) :: st)) : V D nL A p l e R s m args below meth c Q k n ws pc lc (vi y :: vi x :: st) := by
  intro H locs ls hP hD hS hl2
  have h := kk H locs ls hP hD hS hl2
  have e1 : Lib.Math.max.name = yJ9_max_7cf53 := by decide +kernel
  have e2 : Cond.code Lib.Math.max.name Lib.Math.max.code 2 (some .int) = Cond.code yJ9_max_7cf53 cJ9_max_7cf53 2 (some .int) := by decide +kernel
  rw [show vi (if x < y then y else x) = .int (if zI x < zI y then zI y else zI x) by
    by_cases c : x < y
    · rw [if_pos c, if_pos ((zI_lt hx hy).mpr c)]
    · rw [if_neg c, if_neg (fun z => c ((zI_lt hx hy).mp z))]] at h
  exact va_mmax C.exec C.bytes (C.locals.trans hl2.1.symm) C.ow (by rw [e1]; exact C.hts _ hl) (by rw [e1]; exact C.hts _ st_J9_max_7cf53) (C.hts _ in_J9) (by rw [e2]; exact C.hts _ co_J9_max_7cf53) hf hlo hk hn d h
def upc (h : Int → Bool) (q : Nat → Nat → Int) (n : Nat) (x z : Int) : Int := if dkB 5760 (U8 h q n) (8 * x) z = -1 then -1 else 10 * (dkB 5760 (U8 h q n) (8 * x) z / 8) + dkB 5760 (U8 h q n) (8 * x) z % 8
theorem upc_t {h : Int → Bool} {q : Nat → Nat → Int} {n r : Nat} {x z d : Int} (e : dkB 5760 (U8 h q n) (8 * x) z = 8 * d + r) (h0 : 0 ≤ d) (hr : r < 8) : 10 * d + r = upc h q n x z := by
  rw [upc, e, if_neg (by omega)]
  omega
set_option maxHeartbeats 4000000 in
set_option maxRecDepth 100000 in
theorem c_foreseeOpenDuties (l : Launch) (D : va_G) (cy : Nat → ClassId) (sa : Nat → Addr) (hfl : l.stackTraces = false) (ad : Nat → Nat) (n : Nat) (M : Nat → Int → Int) (h : Int → Bool) (td : Int) (q : Nat → Nat → Int) (rq nd : Nat → Nat) (hci : CI h td n q rq nd M) : Ct l D cy sa yX2_foreseeOpenDuties cX2_foreseeOpenDuties 3 none 3 0 0 (cl cy (sa 100) ad n M) [.ref (ad 0)] (fun v ws2 => v = none ∧ ∃ M1, ws2 = cl cy (sa 100) ad n M1 ∧ (∀ k j, (j ≠ 10 ∨ k < 8 ∨ k % 2 = 1) → M1 k j = M k j) ∧ ∀ j : Nat, j < n → M1 (8 + 2 * j) 10 = fo h q j) no_x := by
  refine Ct.of (own := RX2) (lc := [(0, .ref (ad 0))]) (by decide +kernel) hfl (Nat.le_of_ble_eq_true rfl) rfl rfl ?_
  intro p e s m args below meth c A C hex hnm
  generalize hQ : vx_MQ below (Qo D (fun v ws2 => v = none ∧ ∃ M1, ws2 = cl cy (sa 100) ad n M1 ∧ (∀ k j, (j ≠ 10 ∨ k < 8 ∨ k % 2 = 1) → M1 k j = M k j) ∧ ∀ j : Nat, j < n → M1 (8 + 2 * j) 10 = fo h q j) A) (Xo D no_x A) args s 0 0 A = Q
  replace hQ := hQ.symm
  obtain ⟨hc, ⟨htd, td0, td1⟩, hn, hR⟩ := id hci
  refine V.iconst C dX2_foreseeOpenDuties_0 ?_
  refine V.istore_n C (lc2 := [(1, vi 0), (0, .ref (ad 0))]) dX2_foreseeOpenDuties_1 (by decide) rfl ?_
  have loop2 : ∀ (fz : Nat) (i : Int) (M1 : Nat → Int → Int), (0 ≤ i) → (i ≤ n) → (∀ k j, (j ≠ 10 ∨ k < 8 ∨ k % 2 = 1) → M1 k j = M k j) → (∀ j : Nat, (j : Int) < i → M1 (8 + 2 * j) 10 = fo h q j) → (((n : Int) - i).toNat < fz) → V D 3 A p l e (rmL 3 0 0) s m args below meth c Q 0 0 (cl cy (sa 100) ad n M1) 2 [(1, vi i), (0, .ref (ad 0))] [] := by
    intro fz
    induction fz with
    | zero => intro i M1 e0 e1 e2 e3 hf; exact absurd hf (Nat.not_lt_zero _)
    | succ fz ih2 =>
      intro i M1 e0 e1 e2 e3 hf2
      refine V.iload_n C dX2_foreseeOpenDuties_2 0 rfl ?_
      refine V.aload_n C dX2_foreseeOpenDuties_3 1 rfl ?_
      refine V.getf C (v := .ref (ad 5)) 0 cl_0 rfl inX2 1 (by decide) fl_X2_19 (fun _ h => h) rfl dX2_foreseeOpenDuties_4 ?_
      refine V.callV C (As := []) (st := [vi i]) (wr := []) kV_X2_39 (c_size l D cy sa hfl ad n M1) rfl 5 cl_5 rfl rfl rfl (Nat.le_of_ble_eq_true rfl) ⟨by decide, by decide⟩ ⟨by decide, by decide⟩ dX2_foreseeOpenDuties_7 (fun _ _ h => h.elim) (fun v1 w2 r3 => ?_)
      obtain ⟨rfl, hw2⟩ := r3
      rw [hw2]
      show V D 3 A p l e (rmL 3 0 0) s m args below meth c Q 0 0 (cl cy (sa 100) ad n M1) 10 [(1, vi i), (0, .ref (ad 0))] [vi (n : Int), vi i]
      refine V.icmp_ge C 39 dX2_foreseeOpenDuties_10 (by decide) ⟨by omega, by omega⟩ ⟨by omega, by omega⟩ (fun h10 => ?_) (fun h10 => ?_)
      · skip
        rw [hQ]
        exact V.vret C dX2_foreseeOpenDuties_39 (by decide) (by decide) (⟨rfl, M1, rfl, e2, fun j hj => e3 j (by omega)⟩)
      · skip
        obtain ⟨r, rfl⟩ : ∃ r : Nat, i = (r : Int) := ⟨i.toNat, by omega⟩
        have hr : r < n := by omega
        obtain ⟨hk1, hp1, hd1, -⟩ := (hci.same10 e2).2.2.2 r hr
        refine V.aload_n C dX2_foreseeOpenDuties_13 1 rfl ?_
        refine V.getf C (v := .ref (ad 5)) 0 cl_0 rfl inX2 1 (by decide) fl_X2_19 (fun _ h => h) rfl dX2_foreseeOpenDuties_14 ?_
        refine V.iload_n C dX2_foreseeOpenDuties_17 0 rfl ?_
        refine V.callV C (As := [vi (r : Int)]) (st := []) (wr := []) kV_X2_43 (c_get l D cy sa hfl ad n M1 r hr hn) rfl 5 cl_5 rfl rfl rfl (Nat.le_of_ble_eq_true rfl) ⟨by decide, by decide⟩ ⟨by decide, by decide⟩ dX2_foreseeOpenDuties_18 (fun _ _ h => h.elim) (fun v4 w5 r6 => ?_)
        obtain ⟨rfl, hw5⟩ := r6
        rw [hw5]
        show V D 3 A p l e (rmL 3 0 0) s m args below meth c Q 0 0 (cl cy (sa 100) ad n M1) 21 [(1, vi (r : Int)), (0, .ref (ad 0))] [.ref (ad (8 + 2 * r))]
        refine V.cast C (8 + 2 * r) (cl_r hr) rfl cl_X2_47 dX2_foreseeOpenDuties_21 ?_
        refine V.astore_n C (lc2 := [(2, .ref (ad (8 + 2 * r))), (1, vi (r : Int)), (0, .ref (ad 0))]) dX2_foreseeOpenDuties_24 (by decide) rfl ?_
        refine V.aload_n C dX2_foreseeOpenDuties_25 0 rfl ?_
        refine V.aload_n C dX2_foreseeOpenDuties_26 0 rfl ?_
        refine V.callV C (As := []) (st := [.ref (ad (8 + 2 * r))]) (wr := []) kV_X2_130 (c_openDay l D cy sa hfl ad n M1 r hr _ hd1 (q r) hk1 hp1) rfl (8 + 2 * r) (cl_r hr) rfl rfl rfl (Nat.le_of_ble_eq_true rfl) ⟨by decide, by decide⟩ ⟨by decide, by decide⟩ dX2_foreseeOpenDuties_27 (fun _ _ h => h.elim) (fun v7 w8 r9 => ?_)
        obtain ⟨rfl, hw8⟩ := r9
        rw [hw8]
        show V D 3 A p l e (rmL 3 0 0) s m args below meth c Q 0 0 (cl cy (sa 100) ad n M1) 30 [(2, .ref (ad (8 + 2 * r))), (1, vi (r : Int)), (0, .ref (ad 0))] [vi (fo h q r), .ref (ad (8 + 2 * r))]
        refine V.putf C (v := vi (fo h q r)) (ty := .int) (8 + 2 * r) (cl_r hr) rfl inX1 tyX1 tyX1_ok nmX1 10 (by decide) fl_X2_162 (fun _ h => h) rfl (by decide +kernel) rfl rfl (Nat.le_of_ble_eq_true rfl) dX2_foreseeOpenDuties_30 (put_r (q := r) (by decide)) ?_
        refine V.iinc C (lc2 := [(1, vi ((r : Int) + 1)), (2, .ref (ad (8 + 2 * r))), (0, .ref (ad 0))]) dX2_foreseeOpenDuties_33 1 rfl (by decide) rfl ?_
        refine V.goto C 2 dX2_foreseeOpenDuties_36 (by decide) ?_
        exact V.sub [0, 2] rfl (ih2 ((r : Int) + 1) (upM M1 (8 + 2 * r) 10 (fo h q r)) (by omega) (by omega) (fun k j hkj => (upM_n (by omega)).trans (e2 k j hkj)) (fun j hj => by
              by_cases z : j = r
              · subst z; exact upM_s _ _ _ _
              · rw [upM_n (Or.inl (by omega))]; exact e3 j (by omega)) (by omega))
  exact loop2 _ 0 M (by omega) (by omega) (fun _ _ _ => rfl) (fun j hj => by omega) (Nat.lt_succ_self _)
theorem lbP_t {rb r : Nat} {f : Nat → Int} {fb : Int} (h1 : rb.testBit r = true) (h2 : ¬ f r = -1) (h3 : f r ≤ fb) : lbP rb f fb (r : Int) = true := by
  simp [lbP, h1, h2, h3]
theorem lbP_f {rb r : Nat} {f : Nat → Int} {fb : Int} (h : rb.testBit r = false ∨ f r = -1 ∨ fb < f r) : ¬ lbP rb f fb (r : Int) = true := by
  simp only [lbP, Int.toNat_natCast]
  rcases h with h | h | h
  · simp [h]
  · simp [h]
  · rw [decide_eq_false (show ¬ f r ≤ fb by omega)]; simp
set_option maxHeartbeats 4000000 in
set_option maxRecDepth 100000 in
theorem c_leastBlocker (l : Launch) (D : va_G) (cy : Nat → ClassId) (sa : Nat → Addr) (hfl : l.stackTraces = false) (ad : Nat → Nat) (n : Nat) (M : Nat → Int → Int) (hn : n ≤ 8) (f : Nat → Int) (hf : ∀ i, i < n → M (8 + 2 * i) 10 = f i) (hfr : ∀ i, i < n → -1 ≤ f i ∧ f i < 720) (rq : Nat → Nat) (hrq : ∀ i, i < n → M (8 + 2 * i) 6 = (rq i : Int) ∧ rq i < 256) (b : Nat) (hb : b < n) : Ct l D cy sa yX2_leastBlocker cX2_leastBlocker 5 (some .int) 3 0 0 (cl cy (sa 100) ad n M) [.ref (ad 0), .ref (ad (8 + 2 * b))] (fun v ws2 => v = some (vi (lb n (rq b) f (f b))) ∧ ws2 = cl cy (sa 100) ad n M) no_x := by
  refine Ct.of (own := RX2) (lc := [(0, .ref (ad 0)), (1, .ref (ad (8 + 2 * b)))]) (by decide +kernel) hfl (Nat.le_of_ble_eq_true rfl) rfl rfl ?_
  intro p e s m args below meth c A C hex hnm
  generalize hQ : vx_MQ below (Qo D (fun v ws2 => v = some (vi (lb n (rq b) f (f b))) ∧ ws2 = cl cy (sa 100) ad n M) A) (Xo D no_x A) args s 0 0 A = Q
  replace hQ := hQ.symm
  skip
  refine V.iconst C dX2_leastBlocker_0 ?_
  refine V.istore_n C (lc2 := [(2, vi 0), (0, .ref (ad 0)), (1, .ref (ad (8 + 2 * b)))]) dX2_leastBlocker_1 (by decide) rfl ?_
  have loop2 : ∀ (fz : Nat) (i : Int), (0 ≤ i) → (i ≤ n) → (lb n (rq b) f (f b) = frB n (lbP (rq b) f (f b)) i) → (((n : Int) - i).toNat < fz) → V D 5 A p l e (rmL 3 0 0) s m args below meth c Q 0 0 (cl cy (sa 100) ad n M) 2 [(2, vi i), (0, .ref (ad 0)), (1, .ref (ad (8 + 2 * b)))] [] := by
    intro fz
    induction fz with
    | zero => intro i e0 e1 e2 hf; exact absurd hf (Nat.not_lt_zero _)
    | succ fz ih2 =>
      intro i e0 e1 e2 hf2
      refine V.iload_n C dX2_leastBlocker_2 0 rfl ?_
      refine V.aload_n C dX2_leastBlocker_3 1 rfl ?_
      refine V.getf C (v := .ref (ad 5)) 0 cl_0 rfl inX2 1 (by decide) fl_X2_19 (fun _ h => h) rfl dX2_leastBlocker_4 ?_
      refine V.callV C (As := []) (st := [vi i]) (wr := []) kV_X2_39 (c_size l D cy sa hfl ad n M) rfl 5 cl_5 rfl rfl rfl (Nat.le_of_ble_eq_true rfl) ⟨by decide, by decide⟩ ⟨by decide, by decide⟩ dX2_leastBlocker_7 (fun _ _ h => h.elim) (fun v1 w2 r3 => ?_)
      obtain ⟨rfl, hw2⟩ := r3
      rw [hw2]
      show V D 5 A p l e (rmL 3 0 0) s m args below meth c Q 0 0 (cl cy (sa 100) ad n M) 10 [(2, vi i), (0, .ref (ad 0)), (1, .ref (ad (8 + 2 * b)))] [vi (n : Int), vi i]
      refine V.icmp_ge C 72 dX2_leastBlocker_10 (by decide) ⟨by omega, by omega⟩ ⟨by omega, by omega⟩ (fun h10 => ?_) (fun h10 => ?_)
      · skip
        refine V.iconst C dX2_leastBlocker_72 ?_
        rw [hQ]
        exact V.iret C dX2_leastBlocker_73 (by decide) (by decide) (⟨ri (by rw [e2, frB_end (by omega)]), rfl⟩)
      · skip
        obtain ⟨r, rfl⟩ : ∃ r : Nat, i = (r : Int) := ⟨i.toNat, by omega⟩
        have hr : r < n := by omega
        have fr := hfr r hr
        have fb := hfr b hb
        refine V.aload_n C dX2_leastBlocker_13 1 rfl ?_
        refine V.getf C (v := .ref (ad 5)) 0 cl_0 rfl inX2 1 (by decide) fl_X2_19 (fun _ h => h) rfl dX2_leastBlocker_14 ?_
        refine V.iload_n C dX2_leastBlocker_17 0 rfl ?_
        refine V.callV C (As := [vi (r : Int)]) (st := []) (wr := []) kV_X2_43 (c_get l D cy sa hfl ad n M r hr hn) rfl 5 cl_5 rfl rfl rfl (Nat.le_of_ble_eq_true rfl) ⟨by decide, by decide⟩ ⟨by decide, by decide⟩ dX2_leastBlocker_18 (fun _ _ h => h.elim) (fun v4 w5 r6 => ?_)
        obtain ⟨rfl, hw5⟩ := r6
        rw [hw5]
        show V D 5 A p l e (rmL 3 0 0) s m args below meth c Q 0 0 (cl cy (sa 100) ad n M) 21 [(2, vi (r : Int)), (0, .ref (ad 0)), (1, .ref (ad (8 + 2 * b)))] [.ref (ad (8 + 2 * r))]
        refine V.cast C (8 + 2 * r) (cl_r hr) rfl cl_X2_47 dX2_leastBlocker_21 ?_
        refine V.astore_n C (lc2 := [(3, .ref (ad (8 + 2 * r))), (2, vi (r : Int)), (0, .ref (ad 0)), (1, .ref (ad (8 + 2 * b)))]) dX2_leastBlocker_24 (by decide) rfl ?_
        have join40 : ∀ (y : Bool), (y = !decide (f r = -1)) → V D 5 A p l e (rmL 3 0 0) s m args below meth c Q 0 0 (cl cy (sa 100) ad n M) 40 [(4, vi (bI y)), (3, .ref (ad (8 + 2 * r))), (2, vi (r : Int)), (0, .ref (ad 0)), (1, .ref (ad (8 + 2 * b)))] [] := by
          intro y hy
          refine V.aload_n C dX2_leastBlocker_40 4 rfl ?_
          refine V.iload_n C dX2_leastBlocker_41 2 rfl ?_
          refine V.callV C (As := [vi (r : Int)]) (st := []) (wr := []) kV_X2_98 (c_requires l D cy sa hfl ad n M b hb (rq b) (hrq b hb).1 r (by omega)) rfl (8 + 2 * b) (cl_r hb) rfl rfl rfl (Nat.le_of_ble_eq_true rfl) ⟨by decide, by decide⟩ ⟨by decide, by decide⟩ dX2_leastBlocker_42 (fun _ _ h => h.elim) (fun v7 w8 r9 => ?_)
          obtain ⟨rfl, hw8⟩ := r9
          rw [hw8]
          show V D 5 A p l e (rmL 3 0 0) s m args below meth c Q 0 0 (cl cy (sa 100) ad n M) 45 [(4, vi (bI y)), (3, .ref (ad (8 + 2 * r))), (2, vi (r : Int)), (0, .ref (ad 0)), (1, .ref (ad (8 + 2 * b)))] [vi (bI ((rq b).testBit r))]
          refine V.if_eqB C 66 dX2_leastBlocker_45 (by decide) (fun h45 => ?_) (fun h45 => ?_)
          · skip
            refine V.iinc C (lc2 := [(2, vi ((r : Int) + 1)), (4, vi (bI y)), (3, .ref (ad (8 + 2 * r))), (0, .ref (ad 0)), (1, .ref (ad (8 + 2 * b)))]) dX2_leastBlocker_66 2 rfl (by decide) rfl ?_
            refine V.goto C 2 dX2_leastBlocker_69 (by decide) ?_
            exact V.sub [0, 3, 4] rfl (ih2 ((r : Int) + 1) (by omega) (by omega) (by rw [e2, frB_at (by omega), if_neg (lbP_f (by first | exact Or.inl h45 | exact Or.inr (Or.inl (by omega)) | exact Or.inr (Or.inr (by omega))))]) (by omega))
          · skip
            refine V.iload C dX2_leastBlocker_48 0 rfl ?_
            have hz : y = true → ¬ f r = -1 := fun z => by rw [hy] at z; simpa using z
            have hz2 : y = false → f r = -1 := fun z => by rw [hy] at z; simpa using z
            refine V.if_eqB C 66 dX2_leastBlocker_50 (by decide) (fun h50 => ?_) (fun h50 => ?_)
            · skip
              have hz3 := hz2 h50
              refine V.iinc C (lc2 := [(2, vi ((r : Int) + 1)), (4, vi (bI y)), (3, .ref (ad (8 + 2 * r))), (0, .ref (ad 0)), (1, .ref (ad (8 + 2 * b)))]) dX2_leastBlocker_66 2 rfl (by decide) rfl ?_
              refine V.goto C 2 dX2_leastBlocker_69 (by decide) ?_
              exact V.sub [0, 3, 4] rfl (ih2 ((r : Int) + 1) (by omega) (by omega) (by rw [e2, frB_at (by omega), if_neg (lbP_f (by first | exact Or.inl h45 | exact Or.inr (Or.inl (by omega)) | exact Or.inr (Or.inr (by omega))))]) (by omega))
            · skip
              have hz3 := hz h50
              refine V.aload_n C dX2_leastBlocker_53 1 rfl ?_
              refine V.getf C (v := vi (f r)) (8 + 2 * r) (cl_r hr) rfl inX1 10 (by decide) fl_X2_162 (fun _ h => h) (by show some _ = some _; rw [hf r hr]) dX2_leastBlocker_54 ?_
              refine V.aload_n C dX2_leastBlocker_57 4 rfl ?_
              refine V.getf C (v := vi (f b)) (8 + 2 * b) (cl_r hb) rfl inX1 10 (by decide) fl_X2_162 (fun _ h => h) (by show some _ = some _; rw [hf b hb]) dX2_leastBlocker_58 ?_
              refine V.icmp_gt C 66 dX2_leastBlocker_61 (by decide) ⟨by omega, by omega⟩ ⟨by omega, by omega⟩ (fun h61 => ?_) (fun h61 => ?_)
              · skip
                refine V.iinc C (lc2 := [(2, vi ((r : Int) + 1)), (4, vi (bI y)), (3, .ref (ad (8 + 2 * r))), (0, .ref (ad 0)), (1, .ref (ad (8 + 2 * b)))]) dX2_leastBlocker_66 2 rfl (by decide) rfl ?_
                refine V.goto C 2 dX2_leastBlocker_69 (by decide) ?_
                exact V.sub [0, 3, 4] rfl (ih2 ((r : Int) + 1) (by omega) (by omega) (by rw [e2, frB_at (by omega), if_neg (lbP_f (by first | exact Or.inl h45 | exact Or.inr (Or.inl (by omega)) | exact Or.inr (Or.inr (by omega))))]) (by omega))
              · skip
                refine V.iload_n C dX2_leastBlocker_64 2 rfl ?_
                rw [hQ]
                exact V.iret C dX2_leastBlocker_65 (by decide) (by decide) (⟨ri (by rw [e2, frB_at (by omega), if_pos (lbP_t h45 hz3 (by omega))]), rfl⟩)
        refine V.aload_n C dX2_leastBlocker_25 0 rfl ?_
        refine V.getf C (v := vi (f r)) (8 + 2 * r) (cl_r hr) rfl inX1 10 (by decide) fl_X2_162 (fun _ h => h) (by show some _ = some _; rw [hf r hr]) dX2_leastBlocker_26 ?_
        refine V.iconst C dX2_leastBlocker_29 ?_
        refine V.icmp_eq C 37 dX2_leastBlocker_30 (by decide) ⟨by omega, by omega⟩ ⟨by decide, by decide⟩ (fun h30 => ?_) (fun h30 => ?_)
        · skip
          refine V.iconst C dX2_leastBlocker_37 ?_
          refine V.istore C (lc2 := [(4, vi 0), (3, .ref (ad (8 + 2 * r))), (2, vi (r : Int)), (0, .ref (ad 0)), (1, .ref (ad (8 + 2 * b)))]) dX2_leastBlocker_38 (by decide) rfl ?_
          exact join40 false (by simp [h30])
        · skip
          refine V.iconst C dX2_leastBlocker_33 ?_
          refine V.goto C 38 dX2_leastBlocker_34 (by decide) ?_
          refine V.istore C (lc2 := [(4, vi 1), (3, .ref (ad (8 + 2 * r))), (2, vi (r : Int)), (0, .ref (ad 0)), (1, .ref (ad (8 + 2 * b)))]) dX2_leastBlocker_38 (by decide) rfl ?_
          exact join40 true (by simp [h30])
  exact loop2 _ 0 (by omega) (by omega) rfl (Nat.lt_succ_self _)
theorem CI.rqs {h : Int → Bool} {td : Int} {n : Nat} {q : Nat → Nat → Int} {rq nd : Nat → Nat} {M : Nat → Int → Int} (hc : CI h td n q rq nd M) : ∀ i, i < n → M (8 + 2 * i) 6 = (rq i : Int) ∧ rq i < 256 := fun i hi => ⟨(hc.2.2.2 i hi).2.2.2.1, (hc.2.2.2 i hi).2.2.2.2.1⟩
set_option maxHeartbeats 4000000 in
set_option maxRecDepth 100000 in
theorem c_blockedBy (l : Launch) (D : va_G) (cy : Nat → ClassId) (sa : Nat → Addr) (hfl : l.stackTraces = false) (ad : Nat → Nat) (n : Nat) (M : Nat → Int → Int) (h : Int → Bool) (td : Int) (q : Nat → Nat → Int) (rq nd : Nat → Nat) (hci : CI h td n q rq nd M) (x : Int) (hx : inR x) : Ct l D cy sa yX2_blockedBy cX2_blockedBy 3 (some .int) 8 6 36 (cl cy (sa 100) ad n M) [.ref (ad 0), vi x] (fun v ws2 => kRule n x = 0 ∧ v = some (vi (lb n (rq x.toNat) (fo h q) (fo h q x.toNat))) ∧ ∃ M2, ws2 = cl cy (sa 100) ad n M2 ∧ CI h td n q rq nd M2) (fun E ws2 => ((E = xIO ∧ kRule n x = 1)) ∧ ∃ M2, ws2 = cl cy (sa 100) ad n M2 ∧ CI h td n q rq nd M2) := by
  refine Ct.of (own := RX2) (lc := [(0, .ref (ad 0)), (1, vi x)]) (by decide +kernel) hfl (Nat.le_of_ble_eq_true rfl) rfl rfl ?_
  intro p e s m args below meth c A C hex hnm
  generalize hQ : vx_MQ below (Qo D (fun v ws2 => kRule n x = 0 ∧ v = some (vi (lb n (rq x.toNat) (fo h q) (fo h q x.toNat))) ∧ ∃ M2, ws2 = cl cy (sa 100) ad n M2 ∧ CI h td n q rq nd M2) A) (Xo D (fun E ws2 => ((E = xIO ∧ kRule n x = 1)) ∧ ∃ M2, ws2 = cl cy (sa 100) ad n M2 ∧ CI h td n q rq nd M2) A) args s 6 36 A = Q
  replace hQ := hQ.symm
  obtain ⟨hc, ⟨htd, td0, td1⟩, hn, hR⟩ := id hci
  obtain ⟨hxl, hxr⟩ := hx
  refine V.aload_n C dX2_blockedBy_0 0 rfl ?_
  refine V.iload_n C dX2_blockedBy_1 1 rfl ?_
  refine V.callV C (As := [vi x]) (st := []) (wr := []) kV_X2_86 (c_ruleAt l D cy sa hfl ad n M hn x ⟨by omega, by omega⟩) rfl 0 cl_0 rfl rfl rfl (Nat.le_of_ble_eq_true rfl) ⟨by decide, by decide⟩ ⟨by decide, by decide⟩ dX2_blockedBy_2 (fun E wsx hx => ?_) (fun v1 w2 r3 => ?_)
  · skip
    obtain ⟨rfl, rfl, hx1⟩ := hx
    rw [hQ]
    exact VX.out C hex (by decide) (by decide) ⟨⟨rfl, kRule_1 hx1⟩, M, rfl, hci⟩
  · skip
    obtain ⟨r, hr, hxx, rfl, hw2⟩ := r3
    subst hxx
    rw [hw2]
    obtain ⟨hkr, hpr, hdr, hqr, hq8r, hnr, hn8r⟩ := hR r hr
    show V D 3 A p l e (rmL 8 6 36) s m args below meth c Q 1 6 (cl cy (sa 100) ad n M) 5 [(0, .ref (ad 0)), (1, vi (r : Int))] [.ref (ad (8 + 2 * r))]
    refine V.astore_n C (lc2 := [(2, .ref (ad (8 + 2 * r))), (0, .ref (ad 0)), (1, vi (r : Int))]) dX2_blockedBy_5 (by decide) rfl ?_
    refine V.aload_n C dX2_blockedBy_6 1 rfl ?_
    refine V.callV C (As := []) (st := []) (wr := []) kV_X2_138 (c_foreseeOpenDuties l D cy sa hfl ad n M h td q rq nd hci) rfl 0 cl_0 rfl rfl rfl (Nat.le_of_ble_eq_true rfl) ⟨by decide, by decide⟩ ⟨by decide, by decide⟩ dX2_blockedBy_7 (fun _ _ h => h.elim) (fun v4 w5 r6 => ?_)
    obtain ⟨rfl, M1, hw5, m1, m2⟩ := r6
    rw [hw5]
    have hci1 := hci.same10 m1
    show V D 3 A p l e (rmL 8 6 36) s m args below meth c Q 1 6 (cl cy (sa 100) ad n M1) 10 [(2, .ref (ad (8 + 2 * r))), (0, .ref (ad 0)), (1, vi (r : Int))] []
    refine V.aload_n C dX2_blockedBy_10 1 rfl ?_
    refine V.aload_n C dX2_blockedBy_11 0 rfl ?_
    refine V.callV C (As := [.ref (ad (8 + 2 * r))]) (st := []) (wr := []) kV_X2_141 (c_leastBlocker l D cy sa hfl ad n M1 hn (fo h q) m2 (fun i _ => fo_rng h q i) rq hci1.rqs r hr) rfl 0 cl_0 rfl rfl rfl (Nat.le_of_ble_eq_true rfl) ⟨by decide, by decide⟩ ⟨by decide, by decide⟩ dX2_blockedBy_12 (fun _ _ h => h.elim) (fun v7 w8 r9 => ?_)
    obtain ⟨rfl, hw8⟩ := r9
    rw [hw8]
    show V D 3 A p l e (rmL 8 6 36) s m args below meth c Q 1 6 (cl cy (sa 100) ad n M1) 15 [(2, .ref (ad (8 + 2 * r))), (0, .ref (ad 0)), (1, vi (r : Int))] [vi (lb n (rq r) (fo h q) (fo h q r))]
    have vl := lb_rng (n := n) (rb := rq r) (f := fo h q) (fb := fo h q r)
    rw [hQ]
    exact V.iret C dX2_blockedBy_15 (by decide) (by decide) (⟨kRule_0 hr, rfl, M1, rfl, hci1⟩)
def kFin (h : Int → Bool) (n : Nat) (q : Nat → Nat → Int) (rq : Nat → Nat) (x : Int) : Int := if 0 ≤ x ∧ x < (n : Int) then (if fo h q x.toNat = -1 then 2 else if lb n (rq x.toNat) (fo h q) (fo h q x.toNat) = -1 then 0 else 3) else 1
def qfin (q : Nat → Nat → Int) (r : Nat) (td : Int) : Nat → Nat → Int := fun i j => if i = r then (if j = 8 then q i 8 + 1 else if j = 9 then td else q i j) else q i j
theorem qfin_s {q : Nat → Nat → Int} {r j : Nat} {td : Int} (h8 : j ≠ 8) (h9 : j ≠ 9) : qfin q r td r j = q r j := by simp [qfin, h8, h9]
theorem qfin_n {q : Nat → Nat → Int} {r i : Nat} {td : Int} (h : i ≠ r) : qfin q r td i = q i := by funext j; simp [qfin, h]
theorem nom_qs {h : Int → Bool} {q q2 : Nat → Int} (e0 : q2 0 = q 0) (e1 : q2 1 = q 1) (e2 : q2 2 = q 2) : nom h q2 = nom h q := by funext d; simp only [nom, e0, e1, e2]
theorem dueR_qs {h : Int → Bool} {q q2 : Nat → Int} (e0 : q2 0 = q 0) (e1 : q2 1 = q 1) (e2 : q2 2 = q 2) (e5 : q2 5 = q 5) : dueR h q2 = dueR h q := by funext d; simp only [dueR, nom_qs e0 e1 e2, e5]
theorem CI.fin {h : Int → Bool} {td : Int} {n : Nat} {q : Nat → Nat → Int} {rq nd : Nat → Nat} {M : Nat → Int → Int} (hc : CI h td n q rq nd M) {r : Nat} (hr : r < n) (h8 : q r 8 < 720) : CI h td n (qfin q r td) rq nd (upM (upM M (8 + 2 * r) 8 (q r 8 + 1)) (8 + 2 * r) 9 td) := by
  obtain ⟨c1, c2, c3, c4⟩ := hc
  have off : ∀ k, k ≠ 8 + 2 * r → upM (upM M (8 + 2 * r) 8 (q r 8 + 1)) (8 + 2 * r) 9 td k = M k := fun k hk => (upM_off hk).trans (upM_off hk)
  refine ⟨c1.same (off 2 (by omega)) (off 3 (by omega)) (off 4 (by omega)), by rw [off 0 (by omega)]; exact c2, c3, fun i hi => ?_⟩
  by_cases e : i = r
  · subst e
    obtain ⟨⟨b0, b1, b2, b3, b4, b5, b8, b9⟩, p, d, r6, r6b, r7, r7b⟩ := c4 i hi
    have o : ∀ j : Int, j ≠ 8 → j ≠ 9 → upM (upM M (8 + 2 * i) 8 (q i 8 + 1)) (8 + 2 * i) 9 td (8 + 2 * i) j = M (8 + 2 * i) j := fun j h8 h9 => (upM_n (Or.inr h9)).trans (upM_n (Or.inr h8))
    have s8 : upM (upM M (8 + 2 * i) 8 (q i 8 + 1)) (8 + 2 * i) 9 td (8 + 2 * i) 8 = qfin q i td i 8 := by rw [upM_n (Or.inr (by decide)), upM_s]; simp [qfin]
    have s9 : upM (upM M (8 + 2 * i) 8 (q i 8 + 1)) (8 + 2 * i) 9 td (8 + 2 * i) 9 = qfin q i td i 9 := by rw [upM_s]; simp [qfin]
    refine ⟨⟨?_, ?_, ?_, ?_, ?_, ?_, s8, s9⟩, ?_, ?_, by rw [o 6 (by decide) (by decide)]; exact r6, r6b, by rw [o 7 (by decide) (by decide)]; exact r7, r7b⟩
    · rw [o 0 (by decide) (by decide), qfin_s (by decide) (by decide)]; exact b0
    · rw [o 1 (by decide) (by decide), qfin_s (by decide) (by decide)]; exact b1
    · rw [o 2 (by decide) (by decide), qfin_s (by decide) (by decide)]; exact b2
    · rw [o 3 (by decide) (by decide), qfin_s (by decide) (by decide)]; exact b3
    · rw [o 4 (by decide) (by decide), qfin_s (by decide) (by decide)]; exact b4
    · rw [o 5 (by decide) (by decide), qfin_s (by decide) (by decide)]; exact b5
    · obtain ⟨p0, pe, pm, pn, p2, p3, p4, p5, p8, p9⟩ := p
      refine ⟨?_, ?_, ?_, ?_, ?_, ?_, ?_, ?_, ?_, ?_⟩
      · rw [qfin_s (by decide) (by decide)]; exact p0
      · rw [qfin_s (by decide) (by decide), qfin_s (by decide) (by decide)]; exact pe
      · rw [qfin_s (by decide) (by decide), qfin_s (by decide) (by decide)]; exact pm
      · rw [qfin_s (by decide) (by decide), qfin_s (by decide) (by decide)]; exact pn
      · rw [qfin_s (by decide) (by decide)]; exact p2
      · rw [qfin_s (by decide) (by decide)]; exact p3
      · rw [qfin_s (by decide) (by decide)]; exact p4
      · rw [qfin_s (by decide) (by decide)]; exact p5
      · have : qfin q i td i 8 = q i 8 + 1 := by simp [qfin]
        omega
      · have : qfin q i td i 9 = td := by simp [qfin]
        omega
    · rw [dueR_qs (q := q i) (qfin_s (by decide) (by decide)) (qfin_s (by decide) (by decide)) (qfin_s (by decide) (by decide)) (qfin_s (by decide) (by decide)), off _ (by omega)]
      exact d
  · have := (c4 i hi).same (off (8 + 2 * i) (by omega)) (off (8 + 2 * i + 1) (by omega))
    rw [qfin_n e]
    exact this
theorem dk_lt {p : Int → Bool} {a k : Int} (h : ¬ dk p a k = -1) (h0 : 0 ≤ a) (hk : 0 ≤ k) : k < ct p a 720 := by
  by_cases ha : a < 720
  · obtain ⟨j, hj⟩ : ∃ j : Nat, a = 720 - j := ⟨(720 - a).toNat, by omega⟩
    subst hj
    clear ha h0
    induction j generalizing k with
    | zero => exact absurd (dk_end (by omega)) h
    | succ j ih =>
      rw [dk_at (by omega), show (720 : Int) - ((j + 1 : Nat) : Int) + 1 = 720 - j by omega] at h
      rw [ct_down (by omega), show (720 : Int) - ((j + 1 : Nat) : Int) + 1 = 720 - j by omega]
      have hg := (ct_rng p (720 - (j : Int)) 720 (by omega)).1
      by_cases hp : p (720 - ((j + 1 : Nat) : Int)) = true
      · rw [hp]
        have e1 : bI true = 1 := rfl
        rw [if_pos hp] at h
        by_cases k0 : k = 0
        · omega
        · rw [if_neg k0] at h
          have := ih (by omega) h
          omega
      · rw [if_neg hp] at h
        have := ih hk h
        have := bI_01 (p (720 - ((j + 1 : Nat) : Int)))
        omega
  · exact absurd (dk_end (by omega)) h
theorem fo_lt' {h : Int → Bool} {q : Nat → Nat → Int} {r : Nat} (hp : PV (q r)) (hf : ¬ fo h q r = -1) : q r 8 < 720 := by
  have h1 := dk_lt (a := 0) hf (by decide) hp.2.2.2.2.2.2.2.2.1.1
  have := (ct_rng (dueR h (q r)) 0 720 (by decide)).2
  omega
set_option maxHeartbeats 4000000 in
set_option maxRecDepth 100000 in
theorem c_finish (l : Launch) (D : va_G) (cy : Nat → ClassId) (sa : Nat → Addr) (hfl : l.stackTraces = false) (ad : Nat → Nat) (n : Nat) (M : Nat → Int → Int) (h : Int → Bool) (td : Int) (q : Nat → Nat → Int) (rq nd : Nat → Nat) (hci : CI h td n q rq nd M) (x : Int) (hx : inR x) : Ct l D cy sa yX2_finish cX2_finish 4 (some .int) 8 6 36 (cl cy (sa 100) ad n M) [.ref (ad 0), vi x] (fun v ws2 => kFin h n q rq x = 0 ∧ v = some (vi (td - fo h q x.toNat)) ∧ ∃ M2, ws2 = cl cy (sa 100) ad n M2 ∧ CI h td n (qfin q x.toNat td) rq nd M2) (fun E ws2 => ((E = xIO ∧ kFin h n q rq x = 1) ∨ (E = xNS ∧ kFin h n q rq x = 2) ∨ (E = xIS ∧ kFin h n q rq x = 3)) ∧ ∃ M2, ws2 = cl cy (sa 100) ad n M2 ∧ CI h td n q rq nd M2) := by
  refine Ct.of (own := RX2) (lc := [(0, .ref (ad 0)), (1, vi x)]) (by decide +kernel) hfl (Nat.le_of_ble_eq_true rfl) rfl rfl ?_
  intro p e s m args below meth c A C hex hnm
  generalize hQ : vx_MQ below (Qo D (fun v ws2 => kFin h n q rq x = 0 ∧ v = some (vi (td - fo h q x.toNat)) ∧ ∃ M2, ws2 = cl cy (sa 100) ad n M2 ∧ CI h td n (qfin q x.toNat td) rq nd M2) A) (Xo D (fun E ws2 => ((E = xIO ∧ kFin h n q rq x = 1) ∨ (E = xNS ∧ kFin h n q rq x = 2) ∨ (E = xIS ∧ kFin h n q rq x = 3)) ∧ ∃ M2, ws2 = cl cy (sa 100) ad n M2 ∧ CI h td n q rq nd M2) A) args s 6 36 A = Q
  replace hQ := hQ.symm
  obtain ⟨hc, ⟨htd, td0, td1⟩, hn, hR⟩ := id hci
  obtain ⟨hxl, hxr⟩ := hx
  refine V.aload_n C dX2_finish_0 0 rfl ?_
  refine V.iload_n C dX2_finish_1 1 rfl ?_
  refine V.callV C (As := [vi x]) (st := []) (wr := []) kV_X2_86 (c_ruleAt l D cy sa hfl ad n M hn x ⟨by omega, by omega⟩) rfl 0 cl_0 rfl rfl rfl (Nat.le_of_ble_eq_true rfl) ⟨by decide, by decide⟩ ⟨by decide, by decide⟩ dX2_finish_2 (fun E wsx hx => ?_) (fun v1 w2 r3 => ?_)
  · skip
    obtain ⟨rfl, rfl, hx1⟩ := hx
    rw [hQ]
    exact VX.out C hex (by decide) (by decide) ⟨Or.inl ⟨rfl, by rw [kFin, if_neg (by omega)]⟩, M, rfl, hci⟩
  · skip
    obtain ⟨r, hr, hxx, rfl, hw2⟩ := r3
    subst hxx
    rw [hw2]
    obtain ⟨hkr, hpr, hdr, hqr, hq8r, hnr, hn8r⟩ := hR r hr
    show V D 4 A p l e (rmL 8 6 36) s m args below meth c Q 1 6 (cl cy (sa 100) ad n M) 5 [(0, .ref (ad 0)), (1, vi (r : Int))] [.ref (ad (8 + 2 * r))]
    refine V.astore_n C (lc2 := [(2, .ref (ad (8 + 2 * r))), (0, .ref (ad 0)), (1, vi (r : Int))]) dX2_finish_5 (by decide) rfl ?_
    refine V.aload_n C dX2_finish_6 0 rfl ?_
    refine V.callV C (As := []) (st := []) (wr := []) kV_X2_130 (c_openDay l D cy sa hfl ad n M r hr _ hdr (q r) hkr hpr) rfl (8 + 2 * r) (cl_r hr) rfl rfl rfl (Nat.le_of_ble_eq_true rfl) ⟨by decide, by decide⟩ ⟨by decide, by decide⟩ dX2_finish_7 (fun _ _ h => h.elim) (fun v4 w5 r6 => ?_)
    obtain ⟨rfl, hw5⟩ := r6
    rw [hw5]
    show V D 4 A p l e (rmL 8 6 36) s m args below meth c Q 1 6 (cl cy (sa 100) ad n M) 10 [(2, .ref (ad (8 + 2 * r))), (0, .ref (ad 0)), (1, vi (r : Int))] [vi (fo h q r)]
    have vf := fo_rng h q r
    refine V.istore_n C (lc2 := [(3, vi (fo h q r)), (2, .ref (ad (8 + 2 * r))), (0, .ref (ad 0)), (1, vi (r : Int))]) dX2_finish_10 (by decide) rfl ?_
    refine V.iload_n C dX2_finish_11 0 rfl ?_
    refine V.iconst C dX2_finish_12 ?_
    refine V.icmp_ne C 26 dX2_finish_13 (by decide) ⟨by omega, by omega⟩ ⟨by decide, by decide⟩ (fun h13 => ?_) (fun h13 => ?_)
    · skip
      refine V.aload_n C dX2_finish_26 2 rfl ?_
      refine V.callV C (As := []) (st := []) (wr := []) kV_X2_138 (c_foreseeOpenDuties l D cy sa hfl ad n M h td q rq nd hci) rfl 0 cl_0 rfl rfl rfl (Nat.le_of_ble_eq_true rfl) ⟨by decide, by decide⟩ ⟨by decide, by decide⟩ dX2_finish_27 (fun _ _ h => h.elim) (fun v7 w8 r9 => ?_)
      obtain ⟨rfl, M1, hw8, m1, m2⟩ := r9
      rw [hw8]
      have hci1 := hci.same10 m1
      show V D 4 A p l e (rmL 8 6 36) s m args below meth c Q 1 6 (cl cy (sa 100) ad n M1) 30 [(3, vi (fo h q r)), (2, .ref (ad (8 + 2 * r))), (0, .ref (ad 0)), (1, vi (r : Int))] []
      refine V.aload_n C dX2_finish_30 2 rfl ?_
      refine V.aload_n C dX2_finish_31 1 rfl ?_
      refine V.callV C (As := [.ref (ad (8 + 2 * r))]) (st := []) (wr := []) kV_X2_141 (c_leastBlocker l D cy sa hfl ad n M1 hn (fo h q) m2 (fun i _ => fo_rng h q i) rq hci1.rqs r hr) rfl 0 cl_0 rfl rfl rfl (Nat.le_of_ble_eq_true rfl) ⟨by decide, by decide⟩ ⟨by decide, by decide⟩ dX2_finish_32 (fun _ _ h => h.elim) (fun v10 w11 r12 => ?_)
      obtain ⟨rfl, hw11⟩ := r12
      rw [hw11]
      show V D 4 A p l e (rmL 8 6 36) s m args below meth c Q 1 6 (cl cy (sa 100) ad n M1) 35 [(3, vi (fo h q r)), (2, .ref (ad (8 + 2 * r))), (0, .ref (ad 0)), (1, vi (r : Int))] [vi (lb n (rq r) (fo h q) (fo h q r))]
      have vl := lb_rng (n := n) (rb := rq r) (f := fo h q) (fb := fo h q r)
      refine V.iconst C dX2_finish_35 ?_
      refine V.icmp_eq C 49 dX2_finish_36 (by decide) ⟨by omega, by omega⟩ ⟨by decide, by decide⟩ (fun h36 => ?_) (fun h36 => ?_)
      · skip
        refine V.aload_n C dX2_finish_49 1 rfl ?_
        refine V.dup C dX2_finish_50 rfl ?_
        refine V.getf C (v := vi (q r 8)) (8 + 2 * r) (cl_r hr) rfl inX1 8 (by decide) fl_X2_147 (fun _ h => h) (by show some _ = some _; rw [(hci1.2.2.2 r hr).1.2.2.2.2.2.2.1]) dX2_finish_51 ?_
        refine V.iconst C dX2_finish_54 ?_
        refine V.iadd C dX2_finish_55 ?_
        refine V.putf C (v := vi ((q r 8) + 1)) (ty := .int) (8 + 2 * r) (cl_r hr) rfl inX1 tyX1 tyX1_ok nmX1 8 (by decide) fl_X2_147 (fun _ h => h) rfl (by decide +kernel) rfl rfl (Nat.le_of_ble_eq_true rfl) dX2_finish_56 (put_r (q := r) (by decide)) ?_
        refine V.aload_n C dX2_finish_59 1 rfl ?_
        refine V.aload_n C dX2_finish_60 2 rfl ?_
        refine V.getf C (v := vi td) 0 cl_0 rfl inX2 2 (by decide) fl_X2_23 (fun _ h => h) (by show some _ = some _; rw [upM_off (show 0 ≠ 8 + 2 * r by omega), hci1.2.1.1]) dX2_finish_61 ?_
        refine V.putf C (v := vi td) (ty := .int) (8 + 2 * r) (cl_r hr) rfl inX1 tyX1 tyX1_ok nmX1 9 (by decide) fl_X2_150 (fun _ h => h) rfl (by decide +kernel) rfl rfl (Nat.le_of_ble_eq_true rfl) dX2_finish_64 (put_r (q := r) (by decide)) ?_
        refine V.aload_n C dX2_finish_67 2 rfl ?_
        refine V.getf C (v := vi td) 0 cl_0 rfl inX2 2 (by decide) fl_X2_23 (fun _ h => h) (by show some _ = some _; rw [upM_off (show 0 ≠ 8 + 2 * r by omega), upM_off (show 0 ≠ 8 + 2 * r by omega), hci1.2.1.1]) dX2_finish_68 ?_
        refine V.iload_n C dX2_finish_71 0 rfl ?_
        refine V.isub C dX2_finish_72 ?_
        rw [hQ]
        exact V.iret C dX2_finish_73 (by decide) (by decide) (⟨by rw [kFin, if_pos (by omega), Int.toNat_natCast, if_neg h13, if_pos h36], rfl, _, rfl, hci1.fin hr (fo_lt' hpr h13)⟩)
      · skip
        rw [hQ]
        exact V.throw_ISE C hex 9 rfl dX2_finish_39 dX2_finish_42 dX2_finish_43 dX2_finish_45 dX2_finish_48 (by decide) (Nat.le_of_ble_eq_true rfl) (by decide) (by decide) ⟨by decide, by decide⟩ (⟨Or.inr (Or.inr ⟨rfl, by rw [kFin, if_pos (by omega), Int.toNat_natCast, if_neg h13, if_neg h36]⟩), M1, rfl, hci1⟩)
    · skip
      rw [hQ]
      exact V.throw_NSEE C hex 8 rfl dX2_finish_16 dX2_finish_19 dX2_finish_20 dX2_finish_22 dX2_finish_25 (by decide) (Nat.le_of_ble_eq_true rfl) (by decide) (by decide) ⟨by decide, by decide⟩ (⟨Or.inr (Or.inl ⟨rfl, by rw [kFin, if_pos (by omega), Int.toNat_natCast, if_pos h13]⟩), M, rfl, hci⟩)
