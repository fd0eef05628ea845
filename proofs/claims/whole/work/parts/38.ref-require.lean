/-! the reference: reaching over what is required -/
theorem shr_all : ∀ m : Fin 256, ∀ o : Fin 8, zI ((m.val : Nat) : Int) >>> (zI ((o.val : Nat) : Int) &&& 31) = zI ((m.val / 2 ^ o.val : Nat) : Int) := by decide +kernel
theorem zI_shr {m : Nat} {r : Int} (hm : m < 256) (h0 : 0 ≤ r) (h1 : r < 8) : zI (m : Int) >>> (zI r &&& 31) = zI ((m / 2 ^ r.toNat : Nat) : Int) := by
  have := shr_all ⟨m, hm⟩ ⟨r.toNat, by omega⟩
  simpa [Int.toNat_of_nonneg h0] using this
theorem zI_shlI {r : Int} (h0 : 0 ≤ r) (h1 : r < 8) : zI 1 <<< (zI r &&& 31) = zI ((2 ^ r.toNat : Nat) : Int) := by
  have := zI_shl1 (o := r.toNat) (by omega)
  rwa [Int.toNat_of_nonneg h0] at this
theorem zI_or0 (m : Nat) : zI (m : Int) ||| zI 0 = zI (m : Int) := by
  have := zI_or m 0
  rwa [Nat.or_zero] at this
theorem tb_sv {m i sv : Nat} (h : sv = m / 2 ^ i) : m.testBit i = true ↔ (sv : Int) % 2 = 1 := by
  rw [Nat.testBit_eq_decide_div_mod_eq, ← h, decide_eq_true_eq]
  omega
theorem MI.req {h : Int → Bool} {td : Int} {n : Nat} {q : Nat → Nat → Int} {rq : Nat → Nat} {M : Nat → Int → Int} {x z : Int} (hm : MI h td n q rq M) (x0 : 0 ≤ x) (x1 : x < (n : Int)) (z0 : 0 ≤ z) (z1 : z < (n : Int)) : MI h td n q (rqN rq x.toNat z.toNat) (upM M 12 (8 * x + z) (bI true)) := by
  obtain ⟨c1, c2, ⟨c3, c3b⟩, c4, c5, c6⟩ := hm
  have o : ∀ k, k ≠ 12 → upM M 12 (8 * x + z) (bI true) k = M k := fun k hk => upM_off hk
  refine ⟨c1.same (o 2 (by decide)), by rw [o 0 (by decide)]; exact c2, by rw [o 0 (by decide)]; exact ⟨c3, c3b⟩, ?_, by rw [o 10 (by decide), o 11 (by decide)]; exact c5, fun i j i0 i1 j0 j1 => ?_⟩
  · unfold MR
    rw [o 4 (by decide), o 5 (by decide), o 6 (by decide), o 7 (by decide), o 8 (by decide), o 9 (by decide), o 10 (by decide), o 11 (by decide)]
    exact c4
  · by_cases e : i = x ∧ j = z
    · obtain ⟨e1, e2⟩ := e
      subst e1 e2
      rw [upM_s]
      congr 1
      unfold rqb rqN
      rw [if_pos rfl, decide_eq_true x1, decide_eq_true z1, tb_or1.mpr (Or.inr rfl)]; rfl
    · rw [upM_n (Or.inr (by omega)), c6 i j i0 i1 j0 j1]
      congr 1
      unfold rqb rqN
      by_cases ei : i.toNat = x.toNat
      · rw [if_pos ei]
        congr 1
        have hz : ¬ z.toNat = j.toNat := by omega
        rw [Nat.testBit_or, Nat.testBit_two_pow, decide_eq_false hz, Bool.or_false]
      · rw [if_neg ei]
set_option maxHeartbeats 4000000 in
set_option maxRecDepth 100000 in
theorem c_m_reaches (l : Launch) (D : va_G) (cy : Nat → ClassId) (sa : Nat → Addr) (hfl : l.stackTraces = false) (ad : Nat → Nat) (M : Nat → Int → Int) (h : Int → Bool) (td : Int) (n : Nat) (q : Nat → Nat → Int) (rq : Nat → Nat) (hmi : MI h td n q rq M) (nd : Nat → Nat) (hcl : Cls n rq nd) (z x : Int) (z0 : 0 ≤ z) (z1 : z < (n : Int)) (x0 : 0 ≤ x) (x1 : x < (n : Int)) : Ct l D cy sa yX3_reaches cX3_reaches 7 (some .boolean) 3 0 0 (ml cy ad M) [.ref (ad 0), vi z, vi x] (fun v ws2 => v = some (vi (bI (decide (z = x) || (nd z.toNat).testBit x.toNat))) ∧ ws2 = ml cy ad M) no_x := by
  refine Ct.of (own := RX3) (lc := [(0, .ref (ad 0)), (1, vi z), (2, vi x)]) (by decide +kernel) hfl (Nat.le_of_ble_eq_true rfl) rfl rfl ?_
  intro p e s m args below meth c A C hex hnm
  generalize hQ : vx_MQ below (Qo D (fun v ws2 => v = some (vi (bI (decide (z = x) || (nd z.toNat).testBit x.toNat))) ∧ ws2 = ml cy ad M) A) (Xo D no_x A) args s 0 0 A = Q
  replace hQ := hQ.symm
  obtain ⟨hch, ⟨htd, td0, td1⟩, ⟨hmn, hn8⟩, hR, hZ, hQ12⟩ := id hmi
  refine V.iconst C dX3_reaches_0 ?_
  refine V.iload_n C dX3_reaches_1 1 rfl ?_
  refine V.ishl C (z := ((2 ^ z.toNat : Nat) : Int)) dX3_reaches_2 (zI_shlI z0 (by omega)) ?_
  refine V.istore_n C (lc2 := [(3, vi ((2 ^ z.toNat : Nat) : Int)), (0, .ref (ad 0)), (1, vi z), (2, vi x)]) dX3_reaches_3 (by decide) rfl ?_
  refine V.iconst C dX3_reaches_4 ?_
  refine V.istore C (lc2 := [(4, vi 0), (3, vi ((2 ^ z.toNat : Nat) : Int)), (0, .ref (ad 0)), (1, vi z), (2, vi x)]) dX3_reaches_5 (by decide) rfl ?_
  have loop7 : ∀ (fz : Nat) (m9 : Nat) (g9 : Nat), (m9 < 256) → (g9 ≤ m9) → (∀ j, (m9).testBit j = true → j = z.toNat ∨ (nd z.toNat).testBit j = true) → (m9.testBit z.toNat = true) → (∀ r j, r < n → g9.testBit r = true → (rq r).testBit j = true → m9.testBit j = true) → ((512 - m9 - g9) < fz) → V D 7 A p l e (rmL 3 0 0) s m args below meth c Q 0 0 (ml cy ad M) 7 [(4, vi (g9 : Int)), (3, vi (m9 : Int)), (0, .ref (ad 0)), (1, vi z), (2, vi x)] [] := by
    intro fz
    induction fz with
    | zero => intro m9 g9 e0 e1 e2 e3 e4 hf; exact absurd hf (Nat.not_lt_zero _)
    | succ fz ih7 =>
      intro m9 g9 e0 e1 e2 e3 e4 hf7
      refine V.iload_n C dX3_reaches_7 1 rfl ?_
      refine V.iload C dX3_reaches_8 0 rfl ?_
      refine V.icmp_eq C 92 dX3_reaches_10 (by decide) ⟨by omega, by omega⟩ ⟨by omega, by omega⟩ (fun h10 => ?_) (fun h10 => ?_)
      · skip
        obtain ⟨sw, hsw⟩ : ∃ y : Nat, y = m9 / 2 ^ x.toNat := ⟨_, rfl⟩
        have lsw : sw ≤ m9 := by rw [hsw]; exact Nat.div_le_self _ _
        refine V.iload_n C dX3_reaches_92 1 rfl ?_
        refine V.iload_n C dX3_reaches_93 4 rfl ?_
        refine V.ishr C (z := (sw : Int)) dX3_reaches_94 (by rw [hsw]; exact zI_shr e0 x0 (by omega)) ?_
        refine V.iconst C dX3_reaches_95 ?_
        refine V.irem C dX3_reaches_96 ⟨by omega, by omega⟩ (by omega) ⟨by omega, by omega⟩ (by omega) ?_
        refine V.iconst C dX3_reaches_97 ?_
        refine V.icmp_ne C 105 dX3_reaches_98 (by decide) ⟨by omega, by omega⟩ ⟨by decide, by decide⟩ (fun h98 => ?_) (fun h98 => ?_)
        · skip
          refine V.iconst C dX3_reaches_105 ?_
          show V D 7 A p l e (rmL 3 0 0) s m args below meth c Q 0 0 (ml cy ad M) 106 [(4, vi (g9 : Int)), (3, vi (m9 : Int)), (0, .ref (ad 0)), (1, vi z), (2, vi x)] [vi (bI false)]
          rw [hQ]
          exact V.zret C dX3_reaches_106 (by decide) (by decide) (by
            have key : m9.testBit x.toNat = (decide (z = x) || (nd z.toNat).testBit x.toNat) := by
              have eg : g9 = m9 := by omega
              subst eg
              have up : ∀ j, (nd z.toNat).testBit j = true → g9.testBit j = true := (hcl z.toNat (by omega)).2.2 (fun j => g9.testBit j = true) (fun r j hr h1 h2 => e4 r j hr h1 h2) e3
              rw [Bool.eq_iff_iff, Bool.or_eq_true, decide_eq_true_eq]
              constructor
              · intro g
                rcases e2 _ g with g2 | g2
                · exact Or.inl (by omega)
                · exact Or.inr g2
              · intro g
                rcases g with g | g
                · rw [← g]; exact e3
                · exact up _ g
            exact ⟨rb (by rw [← key, eq_comm, ← Bool.not_eq_true]; exact fun z9 => h98 ((tb_sv hsw).mp z9)), rfl⟩)
        · skip
          refine V.iconst C dX3_reaches_101 ?_
          refine V.goto C 106 dX3_reaches_102 (by decide) ?_
          show V D 7 A p l e (rmL 3 0 0) s m args below meth c Q 0 0 (ml cy ad M) 106 [(4, vi (g9 : Int)), (3, vi (m9 : Int)), (0, .ref (ad 0)), (1, vi z), (2, vi x)] [vi (bI true)]
          rw [hQ]
          exact V.zret C dX3_reaches_106 (by decide) (by decide) (by
            have key : m9.testBit x.toNat = (decide (z = x) || (nd z.toNat).testBit x.toNat) := by
              have eg : g9 = m9 := by omega
              subst eg
              have up : ∀ j, (nd z.toNat).testBit j = true → g9.testBit j = true := (hcl z.toNat (by omega)).2.2 (fun j => g9.testBit j = true) (fun r j hr h1 h2 => e4 r j hr h1 h2) e3
              rw [Bool.eq_iff_iff, Bool.or_eq_true, decide_eq_true_eq]
              constructor
              · intro g
                rcases e2 _ g with g2 | g2
                · exact Or.inl (by omega)
                · exact Or.inr g2
              · intro g
                rcases g with g | g
                · rw [← g]; exact e3
                · exact up _ g
            exact ⟨rb (by rw [← key]; exact ((tb_sv hsw).mpr h98).symm), rfl⟩)
      · skip
        refine V.iload_n C dX3_reaches_13 1 rfl ?_
        refine V.istore C (lc2 := [(4, vi (m9 : Int)), (3, vi (m9 : Int)), (0, .ref (ad 0)), (1, vi z), (2, vi x)]) dX3_reaches_14 (by decide) rfl ?_
        refine V.iconst C dX3_reaches_16 ?_
        refine V.istore C (lc2 := [(5, vi 0), (4, vi (m9 : Int)), (3, vi (m9 : Int)), (0, .ref (ad 0)), (1, vi z), (2, vi x)]) dX3_reaches_17 (by decide) rfl ?_
        have loop19 : ∀ (fz : Nat) (r : Int) (m1 : Nat), (0 ≤ r) → (r ≤ (n : Int)) → (m1 < 256) → (m9 ≤ m1) → (∀ j, (m1).testBit j = true → j = z.toNat ∨ (nd z.toNat).testBit j = true) → (∀ j, (m9).testBit j = true → (m1).testBit j = true) → (∀ (a j : Nat), a < n → (a : Int) < r → m9.testBit a = true → (rq a).testBit j = true → m1.testBit j = true) → (((n : Int) - r).toNat < fz) → V D 7 A p l e (rmL 3 0 0) s m args below meth c Q 0 0 (ml cy ad M) 19 [(5, vi r), (4, vi (m9 : Int)), (3, vi (m1 : Int)), (0, .ref (ad 0)), (1, vi z), (2, vi x)] [] := by
          intro fz
          induction fz with
          | zero => intro r m1 r0 r1 f0 f1 f2 f3 f4 hf; exact absurd hf (Nat.not_lt_zero _)
          | succ fz ih19 =>
            intro r m1 r0 r1 f0 f1 f2 f3 f4 hf19
            refine V.iload C dX3_reaches_19 0 rfl ?_
            refine V.aload_n C dX3_reaches_21 3 rfl ?_
            refine V.getf C (v := vi (n : Int)) 0 rfl rfl inX3 3 (by decide) fl_X3_64 (fun _ h => h) (by show some _ = some _; rw [hmi.2.2.1.1]) dX3_reaches_22 ?_
            refine V.icmp_ge C 89 dX3_reaches_25 (by decide) ⟨by omega, by omega⟩ ⟨by omega, by omega⟩ (fun h25 => ?_) (fun h25 => ?_)
            · skip
              refine V.goto C 7 dX3_reaches_89 (by decide) ?_
              exact V.sub [1, 2, 3, 4, 5] rfl (ih7 m1 m9 f0 f1 f2 (f3 _ e3) (fun r j hr hg hj => f4 r j hr (by omega) hg hj) (by omega))
            · skip
              refine V.iconst C dX3_reaches_28 ?_
              refine V.istore C (lc2 := [(6, vi 0), (5, vi r), (4, vi (m9 : Int)), (3, vi (m1 : Int)), (0, .ref (ad 0)), (1, vi z), (2, vi x)]) dX3_reaches_29 (by decide) rfl ?_
              have loop31 : ∀ (fz : Nat) (t : Int) (m2 : Nat), (0 ≤ t) → (t ≤ (n : Int)) → (m2 < 256) → (m1 ≤ m2) → (∀ j, (m2).testBit j = true → j = z.toNat ∨ (nd z.toNat).testBit j = true) → (∀ j, (m1).testBit j = true → (m2).testBit j = true) → (∀ j : Nat, (j : Int) < t → m9.testBit r.toNat = true → (rq r.toNat).testBit j = true → m2.testBit j = true) → (((n : Int) - t).toNat < fz) → V D 7 A p l e (rmL 3 0 0) s m args below meth c Q 0 0 (ml cy ad M) 31 [(6, vi t), (5, vi r), (4, vi (m9 : Int)), (3, vi (m2 : Int)), (0, .ref (ad 0)), (1, vi z), (2, vi x)] [] := by
                intro fz
                induction fz with
                | zero => intro t m2 t0 t1 s0 s1 s2 s3 s4 hf; exact absurd hf (Nat.not_lt_zero _)
                | succ fz ih31 =>
                  intro t m2 t0 t1 s0 s1 s2 s3 s4 hf31
                  refine V.iload C dX3_reaches_31 0 rfl ?_
                  refine V.aload_n C dX3_reaches_33 4 rfl ?_
                  refine V.getf C (v := vi (n : Int)) 0 rfl rfl inX3 3 (by decide) fl_X3_64 (fun _ h => h) (by show some _ = some _; rw [hmi.2.2.1.1]) dX3_reaches_34 ?_
                  refine V.icmp_ge C 83 dX3_reaches_37 (by decide) ⟨by omega, by omega⟩ ⟨by omega, by omega⟩ (fun h37 => ?_) (fun h37 => ?_)
                  · skip
                    refine V.iinc C (lc2 := [(5, vi (r + 1)), (6, vi t), (4, vi (m9 : Int)), (3, vi (m2 : Int)), (0, .ref (ad 0)), (1, vi z), (2, vi x)]) dX3_reaches_83 1 rfl (by decide) rfl ?_
                    refine V.goto C 19 dX3_reaches_86 (by decide) ?_
                    exact V.sub [0, 2, 3, 4, 5, 6] rfl (ih19 (r + 1) m2 (by omega) (by omega) s0 (by omega) s2 (fun j hj => s3 j (f3 j hj)) (fun a j an ha hm hj => by
                          by_cases c : (a : Int) = r
                          · exact s4 j (by have := (hcl a an).1 j hj; omega) (by rw [← c, Int.toNat_natCast]; exact hm) (by rw [← c, Int.toNat_natCast]; exact hj)
                          · exact s3 j (f4 a j an (by omega) hm hj)) (by omega))
                  · skip
                    obtain ⟨sv, hsv⟩ : ∃ y : Nat, y = m2 / 2 ^ r.toNat := ⟨_, rfl⟩
                    have lsv : sv ≤ m2 := by rw [hsv]; exact Nat.div_le_self _ _
                    refine V.iload_n C dX3_reaches_40 3 rfl ?_
                    refine V.iload_n C dX3_reaches_41 3 rfl ?_
                    refine V.iload C dX3_reaches_42 1 rfl ?_
                    refine V.ishr C (z := (sv : Int)) dX3_reaches_44 (by rw [hsv]; exact zI_shr s0 r0 (by omega)) ?_
                    refine V.iconst C dX3_reaches_45 ?_
                    refine V.irem C dX3_reaches_46 ⟨by omega, by omega⟩ (by omega) ⟨by omega, by omega⟩ (by omega) ?_
                    refine V.iconst C dX3_reaches_47 ?_
                    refine V.icmp_ne C 74 dX3_reaches_48 (by decide) ⟨by omega, by omega⟩ ⟨by decide, by decide⟩ (fun h48 => ?_) (fun h48 => ?_)
                    · skip
                      refine V.iconst C dX3_reaches_74 ?_
                      refine V.ior C (z := (m2 : Int)) dX3_reaches_75 (zI_or0 m2) ?_
                      refine V.istore_n C (lc2 := [(3, vi (m2 : Int)), (6, vi t), (5, vi r), (4, vi (m9 : Int)), (0, .ref (ad 0)), (1, vi z), (2, vi x)]) dX3_reaches_76 (by decide) rfl ?_
                      refine V.iinc C (lc2 := [(6, vi (t + 1)), (3, vi (m2 : Int)), (5, vi r), (4, vi (m9 : Int)), (0, .ref (ad 0)), (1, vi z), (2, vi x)]) dX3_reaches_77 1 rfl (by decide) rfl ?_
                      refine V.goto C 31 dX3_reaches_80 (by decide) ?_
                      exact V.sub [0, 2, 3, 1, 4, 5, 6] rfl (ih31 (t + 1) m2 (by omega) (by omega) (by omega) (by omega) (by omega) (by omega) (fun j hj hm hq => by
                              by_cases c : (j : Int) = t
                              · have ej : j = t.toNat := by omega
                                subst ej
                                exact absurd ((tb_sv hsv).mp (s3 _ (f3 _ hm))) h48
                              · exact s4 j (by omega) hm hq) (by omega))
                    · skip
                      refine V.aload_n C dX3_reaches_51 4 rfl ?_
                      refine V.getf C (v := .ref (ad 12)) 0 rfl rfl inX3 12 (by decide) fl_X3_38 (fun _ h => h) rfl dX3_reaches_52 ?_
                      refine V.bipush C dX3_reaches_55 (by decide) ?_
                      refine V.iload C dX3_reaches_57 1 rfl ?_
                      refine V.imul C dX3_reaches_59 ?_
                      refine V.iload C dX3_reaches_60 0 rfl ?_
                      refine V.iadd C dX3_reaches_62 ?_
                      refine V.zald C (v := bI ((rq r.toNat).testBit t.toNat)) 10 rfl (by omega) (by omega) (by decide) (ld_ar (by omega) (by rw [hQ12 r t r0 (by omega) t0 (by omega), rqb, decide_eq_true (show r < (n : Int) by omega), decide_eq_true (show t < (n : Int) by omega)]; rfl)) dX3_reaches_63 ?_
                      refine V.if_eqB C 74 dX3_reaches_64 (by decide) (fun h64 => ?_) (fun h64 => ?_)
                      · skip
                        refine V.iconst C dX3_reaches_74 ?_
                        refine V.ior C (z := (m2 : Int)) dX3_reaches_75 (zI_or0 m2) ?_
                        refine V.istore_n C (lc2 := [(3, vi (m2 : Int)), (6, vi t), (5, vi r), (4, vi (m9 : Int)), (0, .ref (ad 0)), (1, vi z), (2, vi x)]) dX3_reaches_76 (by decide) rfl ?_
                        refine V.iinc C (lc2 := [(6, vi (t + 1)), (3, vi (m2 : Int)), (5, vi r), (4, vi (m9 : Int)), (0, .ref (ad 0)), (1, vi z), (2, vi x)]) dX3_reaches_77 1 rfl (by decide) rfl ?_
                        refine V.goto C 31 dX3_reaches_80 (by decide) ?_
                        exact V.sub [0, 2, 3, 1, 4, 5, 6] rfl (ih31 (t + 1) m2 (by omega) (by omega) (by omega) (by omega) (by omega) (by omega) (fun j hj hm hq => by
                                by_cases c : (j : Int) = t
                                · have ej : j = t.toNat := by omega
                                  subst ej
                                  rw [h64] at hq; cases hq
                                · exact s4 j (by omega) hm hq) (by omega))
                      · skip
                        refine V.iconst C dX3_reaches_67 ?_
                        refine V.iload C dX3_reaches_68 0 rfl ?_
                        refine V.ishl C (z := ((2 ^ t.toNat : Nat) : Int)) dX3_reaches_70 (zI_shlI t0 (by omega)) ?_
                        refine V.goto C 75 dX3_reaches_71 (by decide) ?_
                        refine V.ior C (z := ((m2 ||| 2 ^ t.toNat : Nat) : Int)) dX3_reaches_75 (zI_or m2 (2 ^ t.toNat)) ?_
                        refine V.istore_n C (lc2 := [(3, vi ((m2 ||| 2 ^ t.toNat : Nat) : Int)), (6, vi t), (5, vi r), (4, vi (m9 : Int)), (0, .ref (ad 0)), (1, vi z), (2, vi x)]) dX3_reaches_76 (by decide) rfl ?_
                        refine V.iinc C (lc2 := [(6, vi (t + 1)), (3, vi ((m2 ||| 2 ^ t.toNat : Nat) : Int)), (5, vi r), (4, vi (m9 : Int)), (0, .ref (ad 0)), (1, vi z), (2, vi x)]) dX3_reaches_77 1 rfl (by decide) rfl ?_
                        refine V.goto C 31 dX3_reaches_80 (by decide) ?_
                        exact V.sub [0, 2, 3, 1, 4, 5, 6] rfl (ih31 (t + 1) (m2 ||| 2 ^ t.toNat) (by omega) (by omega) (or8 s0 (by have := pow8 (show t.toNat < 8 by omega); omega)) (Nat.le_trans s1 Nat.left_le_or) (fun j hj => by
                                rcases tb_or1.mp hj with g | g
                                · exact s2 j g
                                · subst g
                                  have hr := (tb_sv hsv).mpr h48
                                  rcases s2 _ hr with g2 | g2
                                  · refine Or.inr ((hcl z.toNat (by omega)).1 _ (by rw [← g2]; exact h64)).2
                                  · exact Or.inr ((hcl z.toNat (by omega)).2.1 _ _ g2 h64)) (fun j hj => tb_or1.mpr (Or.inl (s3 j hj))) (fun j hj hm hq => by
                                by_cases c : (j : Int) = t
                                · exact tb_or1.mpr (Or.inr (by omega))
                                · exact tb_or1.mpr (Or.inl (s4 j (by omega) hm hq))) (by omega))
              exact loop31 _ 0 m1 (by omega) (by omega) f0 (Nat.le_refl _) f2 (fun _ hj => hj) (fun j hj => by omega) (Nat.lt_succ_self _)
        exact loop19 _ 0 m9 (by omega) (by omega) e0 (Nat.le_refl _) e2 (fun _ hj => hj) (fun a j _ ha => by omega) (Nat.lt_succ_self _)
  exact loop7 _ (2 ^ z.toNat) 0 (by have := pow8 (show z.toNat < 8 by omega); omega) (Nat.zero_le _) (fun j hj => Or.inl (by rw [Nat.testBit_two_pow, decide_eq_true_eq] at hj; exact hj.symm)) (by rw [Nat.testBit_two_pow]; simp) (fun r j _ hg => by rw [Nat.zero_testBit] at hg; cases hg) (Nat.lt_succ_self _)
set_option maxHeartbeats 4000000 in
set_option maxRecDepth 100000 in
theorem c_m_require (l : Launch) (D : va_G) (cy : Nat → ClassId) (sa : Nat → Addr) (hfl : l.stackTraces = false) (ad : Nat → Nat) (M : Nat → Int → Int) (h : Int → Bool) (td : Int) (n : Nat) (q : Nat → Nat → Int) (rq : Nat → Nat) (hmi : MI h td n q rq M) (nd : Nat → Nat) (hcl : Cls n rq nd) (x : Int) (hx : inR x) (z : Int) (hz : inR z) : Ct l D cy sa yX3_require cX3_require 4 (some .boolean) 8 0 0 (ml cy ad M) [.ref (ad 0), vi x, vi z] (fun v ws2 => ∃ y, v = some (vi (bI y)) ∧ ((kReq n nd x z) = 0 → y = !(rq x.toNat).testBit z.toNat) ∧ ∃ M2, ws2 = ml cy ad M2 ∧ M2 0 0 = (kReq n nd x z) ∧ ((kReq n nd x z) = 0 → MI h td n q (rqN rq x.toNat z.toNat) M2) ∧ ((kReq n nd x z) ≠ 0 → MI h td n q rq M2)) no_x := by
  refine Ct.of (own := RX3) (lc := [(0, .ref (ad 0)), (1, vi x), (2, vi z)]) (by decide +kernel) hfl (Nat.le_of_ble_eq_true rfl) rfl rfl ?_
  intro p e s m args below meth c A C hex hnm
  generalize hQ : vx_MQ below (Qo D (fun v ws2 => ∃ y, v = some (vi (bI y)) ∧ ((kReq n nd x z) = 0 → y = !(rq x.toNat).testBit z.toNat) ∧ ∃ M2, ws2 = ml cy ad M2 ∧ M2 0 0 = (kReq n nd x z) ∧ ((kReq n nd x z) = 0 → MI h td n q (rqN rq x.toNat z.toNat) M2) ∧ ((kReq n nd x z) ≠ 0 → MI h td n q rq M2)) A) (Xo D no_x A) args s 0 0 A = Q
  replace hQ := hQ.symm
  obtain ⟨hch, ⟨htd, td0, td1⟩, ⟨hmn, hn8⟩, hR, hZ, hQ12⟩ := id hmi
  obtain ⟨hxl, hxr⟩ := hx
  obtain ⟨hzl, hzr⟩ := hz
  refine V.aload_n C dX3_require_0 0 rfl ?_
  refine V.aload_n C dX3_require_1 0 rfl ?_
  refine V.iload_n C dX3_require_2 1 rfl ?_
  refine V.callV C (As := [vi x]) (st := [.ref (ad 0)]) (wr := []) kV_X3_84 (c_m_isRule l D cy sa hfl ad M n hmi.2.2.1.1 hn8 x ⟨by omega, by omega⟩) rfl 0 rfl rfl rfl rfl (Nat.le_of_ble_eq_true rfl) ⟨by decide, by decide⟩ ⟨by decide, by decide⟩ dX3_require_3 (fun _ _ h => h.elim) (fun v1 w2 r3 => ?_)
  obtain ⟨rfl, hw2⟩ := r3
  rw [hw2]
  show V D 4 A p l e (rmL 8 0 0) s m args below meth c Q 0 0 (ml cy ad M) 6 [(0, .ref (ad 0)), (1, vi x), (2, vi z)] [vi (bI (isR n x)), .ref (ad 0)]
  refine V.if_eqB C 17 dX3_require_6 (by decide) (fun h6 => ?_) (fun h6 => ?_)
  · skip
    refine V.iconst C dX3_require_17 ?_
    refine V.goto C 35 dX3_require_18 (by decide) ?_
    refine V.putf C (v := vi 1) (ty := .int) 0 rfl rfl inX3 tyX3 tyX3_ok nmX3 0 (by decide) fl_X3_56 (fun _ h => h) rfl (by decide +kernel) rfl rfl (Nat.le_of_ble_eq_true rfl) dX3_require_35 mput_0_0 ?_
    refine V.aload_n C dX3_require_38 0 rfl ?_
    refine V.getf C (v := vi 1) 0 rfl rfl inX3 0 (by decide) fl_X3_56 (fun _ h => h) (by show some _ = some _; rw [upM_s]) dX3_require_39 ?_
    refine V.if_le C 47 dX3_require_42 (by decide) ⟨by decide, by decide⟩ (fun h42 => (by exact absurd h42 (by decide))) (fun h42 => ?_)
    refine V.iconst C dX3_require_45 ?_
    show V D 4 A p l e (rmL 8 0 0) s m args below meth c Q 0 0 (ml cy ad (upM M 0 0 1)) 46 [(0, .ref (ad 0)), (1, vi x), (2, vi z)] [vi (bI false)]
    rw [hQ]
    exact V.zret C dX3_require_46 (by decide) (by decide) (⟨false, rfl, fun e9 => n10 (show kReq n nd x z = 1 by rw [kReq, if_neg (by have := isR_f.mp h6; omega)]) e9, _, rfl, by rw [upM_s, show kReq n nd x z = 1 by rw [kReq, if_neg (by have := isR_f.mp h6; omega)]], fun e9 => n10 (show kReq n nd x z = 1 by rw [kReq, if_neg (by have := isR_f.mp h6; omega)]) e9, fun _ => hmi.t⟩)
  · skip
    obtain ⟨gx0, gx1⟩ := isR_iff.mp h6
    refine V.aload_n C dX3_require_9 0 rfl ?_
    refine V.iload_n C dX3_require_10 2 rfl ?_
    refine V.callV C (As := [vi z]) (st := [.ref (ad 0)]) (wr := []) kV_X3_84 (c_m_isRule l D cy sa hfl ad M n hmi.2.2.1.1 hn8 z ⟨by omega, by omega⟩) rfl 0 rfl rfl rfl rfl (Nat.le_of_ble_eq_true rfl) ⟨by decide, by decide⟩ ⟨by decide, by decide⟩ dX3_require_11 (fun _ _ h => h.elim) (fun v4 w5 r6 => ?_)
    obtain ⟨rfl, hw5⟩ := r6
    rw [hw5]
    show V D 4 A p l e (rmL 8 0 0) s m args below meth c Q 0 0 (ml cy ad M) 14 [(0, .ref (ad 0)), (1, vi x), (2, vi z)] [vi (bI (isR n z)), .ref (ad 0)]
    refine V.if_neB C 21 dX3_require_14 (by decide) (fun h14 => ?_) (fun h14 => ?_)
    · skip
      obtain ⟨gz0, gz1⟩ := isR_iff.mp h14
      refine V.aload_n C dX3_require_21 0 rfl ?_
      refine V.iload_n C dX3_require_22 2 rfl ?_
      refine V.iload_n C dX3_require_23 1 rfl ?_
      refine V.callV C (As := [vi z, vi x]) (st := [.ref (ad 0)]) (wr := []) kV_X3_87 (c_m_reaches l D cy sa hfl ad M h td n q rq hmi nd hcl z x gz0 gz1 gx0 gx1) rfl 0 rfl rfl rfl rfl (Nat.le_of_ble_eq_true rfl) ⟨by decide, by decide⟩ ⟨by decide, by decide⟩ dX3_require_24 (fun _ _ h => h.elim) (fun v7 w8 r9 => ?_)
      obtain ⟨rfl, hw8⟩ := r9
      rw [hw8]
      show V D 4 A p l e (rmL 8 0 0) s m args below meth c Q 0 0 (ml cy ad M) 27 [(0, .ref (ad 0)), (1, vi x), (2, vi z)] [vi (bI (decide (z = x) || (nd z.toNat).testBit x.toNat)), .ref (ad 0)]
      refine V.if_eqB C 34 dX3_require_27 (by decide) (fun h27 => ?_) (fun h27 => ?_)
      · skip
        refine V.iconst C dX3_require_34 ?_
        refine V.putf C (v := vi 0) (ty := .int) 0 rfl rfl inX3 tyX3 tyX3_ok nmX3 0 (by decide) fl_X3_56 (fun _ h => h) rfl (by decide +kernel) rfl rfl (Nat.le_of_ble_eq_true rfl) dX3_require_35 mput_0_0 ?_
        refine V.aload_n C dX3_require_38 0 rfl ?_
        refine V.getf C (v := vi 0) 0 rfl rfl inX3 0 (by decide) fl_X3_56 (fun _ h => h) (by show some _ = some _; rw [upM_s]) dX3_require_39 ?_
        refine V.if_le C 47 dX3_require_42 (by decide) ⟨by decide, by decide⟩ (fun h42 => ?_) (fun h42 => (by exact absurd h42 (by decide)))
        refine V.aload_n C dX3_require_47 0 rfl ?_
        refine V.getf C (v := .ref (ad 12)) 0 rfl rfl inX3 12 (by decide) fl_X3_38 (fun _ h => h) rfl dX3_require_48 ?_
        refine V.bipush C dX3_require_51 (by decide) ?_
        refine V.iload_n C dX3_require_53 1 rfl ?_
        refine V.imul C dX3_require_54 ?_
        refine V.iload_n C dX3_require_55 2 rfl ?_
        refine V.iadd C dX3_require_56 ?_
        refine V.zald C (v := bI ((rq x.toNat).testBit z.toNat)) 10 rfl (by omega) (by omega) (by decide) (ld_ar (by omega) (by rw [upM_n (Or.inl (by decide)), hQ12 x z gx0 (by omega) gz0 (by omega), rqb, decide_eq_true gx1, decide_eq_true gz1]; rfl)) dX3_require_57 ?_
        refine V.istore_n C (lc2 := [(3, vi (bI ((rq x.toNat).testBit z.toNat))), (0, .ref (ad 0)), (1, vi x), (2, vi z)]) dX3_require_58 (by decide) rfl ?_
        refine V.aload_n C dX3_require_59 1 rfl ?_
        refine V.getf C (v := .ref (ad 12)) 0 rfl rfl inX3 12 (by decide) fl_X3_38 (fun _ h => h) rfl dX3_require_60 ?_
        refine V.bipush C dX3_require_63 (by decide) ?_
        refine V.iload_n C dX3_require_65 2 rfl ?_
        refine V.imul C dX3_require_66 ?_
        refine V.iload_n C dX3_require_67 3 rfl ?_
        refine V.iadd C dX3_require_68 ?_
        refine V.iconst C dX3_require_69 ?_
        show V D 4 A p l e (rmL 8 0 0) s m args below meth c Q 0 0 (ml cy ad (upM M 0 0 0)) 70 [(3, vi (bI ((rq x.toNat).testBit z.toNat))), (0, .ref (ad 0)), (1, vi x), (2, vi z)] [vi (bI true), vi ((8 * x) + z), .ref (ad 12)]
        refine V.zast C 10 rfl (by omega) (by omega) (by decide) dX3_require_70 (mput_12 (by omega)) ?_
        refine V.iload_n C dX3_require_71 0 rfl ?_
        refine V.if_neB C 79 dX3_require_72 (by decide) (fun h72 => ?_) (fun h72 => ?_)
        · skip
          refine V.iconst C dX3_require_79 ?_
          show V D 4 A p l e (rmL 8 0 0) s m args below meth c Q 0 0 (ml cy ad (upM (upM M 0 0 0) 12 ((8 * x) + z) (bI true))) 80 [(3, vi (bI ((rq x.toNat).testBit z.toNat))), (0, .ref (ad 0)), (1, vi x), (2, vi z)] [vi (bI false)]
          rw [hQ]
          exact V.zret C dX3_require_80 (by decide) (by decide) (⟨_, rfl, fun _ => by rw [h72]; rfl, _, rfl, by rw [upM_n (Or.inl (by decide)), upM_s, show kReq n nd x z = 0 by rw [kReq, if_pos ⟨⟨gx0, gx1⟩, gz0, gz1⟩, if_neg (fun z9 => by rw [Bool.or_eq_false_iff, decide_eq_false_iff_not] at h27; rcases z9 with g | g; (exact h27.1 g.symm); (rw [h27.2] at g; cases g))]], fun _ => hmi.t.req gx0 gx1 gz0 gz1, fun e9 => absurd (show kReq n nd x z = 0 by rw [kReq, if_pos ⟨⟨gx0, gx1⟩, gz0, gz1⟩, if_neg (fun z9 => by rw [Bool.or_eq_false_iff, decide_eq_false_iff_not] at h27; rcases z9 with g | g; (exact h27.1 g.symm); (rw [h27.2] at g; cases g))]) e9⟩)
        · skip
          refine V.iconst C dX3_require_75 ?_
          refine V.goto C 80 dX3_require_76 (by decide) ?_
          show V D 4 A p l e (rmL 8 0 0) s m args below meth c Q 0 0 (ml cy ad (upM (upM M 0 0 0) 12 ((8 * x) + z) (bI true))) 80 [(3, vi (bI ((rq x.toNat).testBit z.toNat))), (0, .ref (ad 0)), (1, vi x), (2, vi z)] [vi (bI true)]
          rw [hQ]
          exact V.zret C dX3_require_80 (by decide) (by decide) (⟨_, rfl, fun _ => by rw [h72]; rfl, _, rfl, by rw [upM_n (Or.inl (by decide)), upM_s, show kReq n nd x z = 0 by rw [kReq, if_pos ⟨⟨gx0, gx1⟩, gz0, gz1⟩, if_neg (fun z9 => by rw [Bool.or_eq_false_iff, decide_eq_false_iff_not] at h27; rcases z9 with g | g; (exact h27.1 g.symm); (rw [h27.2] at g; cases g))]], fun _ => hmi.t.req gx0 gx1 gz0 gz1, fun e9 => absurd (show kReq n nd x z = 0 by rw [kReq, if_pos ⟨⟨gx0, gx1⟩, gz0, gz1⟩, if_neg (fun z9 => by rw [Bool.or_eq_false_iff, decide_eq_false_iff_not] at h27; rcases z9 with g | g; (exact h27.1 g.symm); (rw [h27.2] at g; cases g))]) e9⟩)
      · skip
        refine V.iconst C dX3_require_30 ?_
        refine V.goto C 35 dX3_require_31 (by decide) ?_
        refine V.putf C (v := vi 2) (ty := .int) 0 rfl rfl inX3 tyX3 tyX3_ok nmX3 0 (by decide) fl_X3_56 (fun _ h => h) rfl (by decide +kernel) rfl rfl (Nat.le_of_ble_eq_true rfl) dX3_require_35 mput_0_0 ?_
        refine V.aload_n C dX3_require_38 0 rfl ?_
        refine V.getf C (v := vi 2) 0 rfl rfl inX3 0 (by decide) fl_X3_56 (fun _ h => h) (by show some _ = some _; rw [upM_s]) dX3_require_39 ?_
        refine V.if_le C 47 dX3_require_42 (by decide) ⟨by decide, by decide⟩ (fun h42 => (by exact absurd h42 (by decide))) (fun h42 => ?_)
        refine V.iconst C dX3_require_45 ?_
        show V D 4 A p l e (rmL 8 0 0) s m args below meth c Q 0 0 (ml cy ad (upM M 0 0 2)) 46 [(0, .ref (ad 0)), (1, vi x), (2, vi z)] [vi (bI false)]
        rw [hQ]
        exact V.zret C dX3_require_46 (by decide) (by decide) (⟨false, rfl, fun e9 => n20 (show kReq n nd x z = 2 by rw [kReq, if_pos ⟨⟨gx0, gx1⟩, gz0, gz1⟩, if_pos (show x = z ∨ (nd z.toNat).testBit x.toNat = true by rw [Bool.or_eq_true, decide_eq_true_eq] at h27; rcases h27 with g | g; (exact Or.inl g.symm); (exact Or.inr g))]) e9, _, rfl, by rw [upM_s, show kReq n nd x z = 2 by rw [kReq, if_pos ⟨⟨gx0, gx1⟩, gz0, gz1⟩, if_pos (show x = z ∨ (nd z.toNat).testBit x.toNat = true by rw [Bool.or_eq_true, decide_eq_true_eq] at h27; rcases h27 with g | g; (exact Or.inl g.symm); (exact Or.inr g))]], fun e9 => n20 (show kReq n nd x z = 2 by rw [kReq, if_pos ⟨⟨gx0, gx1⟩, gz0, gz1⟩, if_pos (show x = z ∨ (nd z.toNat).testBit x.toNat = true by rw [Bool.or_eq_true, decide_eq_true_eq] at h27; rcases h27 with g | g; (exact Or.inl g.symm); (exact Or.inr g))]) e9, fun _ => hmi.t⟩)
    · skip
      refine V.iconst C dX3_require_17 ?_
      refine V.goto C 35 dX3_require_18 (by decide) ?_
      refine V.putf C (v := vi 1) (ty := .int) 0 rfl rfl inX3 tyX3 tyX3_ok nmX3 0 (by decide) fl_X3_56 (fun _ h => h) rfl (by decide +kernel) rfl rfl (Nat.le_of_ble_eq_true rfl) dX3_require_35 mput_0_0 ?_
      refine V.aload_n C dX3_require_38 0 rfl ?_
      refine V.getf C (v := vi 1) 0 rfl rfl inX3 0 (by decide) fl_X3_56 (fun _ h => h) (by show some _ = some _; rw [upM_s]) dX3_require_39 ?_
      refine V.if_le C 47 dX3_require_42 (by decide) ⟨by decide, by decide⟩ (fun h42 => (by exact absurd h42 (by decide))) (fun h42 => ?_)
      refine V.iconst C dX3_require_45 ?_
      show V D 4 A p l e (rmL 8 0 0) s m args below meth c Q 0 0 (ml cy ad (upM M 0 0 1)) 46 [(0, .ref (ad 0)), (1, vi x), (2, vi z)] [vi (bI false)]
      rw [hQ]
      exact V.zret C dX3_require_46 (by decide) (by decide) (⟨false, rfl, fun e9 => n10 (show kReq n nd x z = 1 by rw [kReq, if_neg (by have := isR_f.mp h14; omega)]) e9, _, rfl, by rw [upM_s, show kReq n nd x z = 1 by rw [kReq, if_neg (by have := isR_f.mp h14; omega)]], fun e9 => n10 (show kReq n nd x z = 1 by rw [kReq, if_neg (by have := isR_f.mp h14; omega)]) e9, fun _ => hmi.t⟩)
