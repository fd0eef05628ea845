/-! addRule -/
def kAdd (n : Nat) (kd nn sh fs ef va : Int) : Int := if isDy fs = true then (if ((0 ≤ kd ∧ kd ≤ 3) ∧ (kd = 0 → 1 ≤ nn ∧ nn ≤ 60) ∧ (kd = 1 → 0 ≤ nn ∧ nn ≤ 29) ∧ (2 ≤ kd → 1 ≤ nn ∧ nn ≤ 22)) ∧ (0 ≤ sh ∧ sh ≤ 2) ∧ (1 ≤ ef ∧ ef ≤ 9) ∧ (0 ≤ va ∧ va ≤ 99) then (if n < 8 then 0 else 3) else 2) else 1
theorem PV.new {kd nn sh fs ef va : Int} (h1 : KV kd nn) (h2 : 0 ≤ sh ∧ sh ≤ 2) (h3 : 1 ≤ ef ∧ ef ≤ 9) (h4 : 0 ≤ va ∧ va ≤ 99) (h5 : 0 ≤ fs ∧ fs < 720) : PV (pN kd nn fs ef va sh) :=
  ⟨h1.1, h1.2.1, h1.2.2.1, h1.2.2.2, h5, h3, h4, h2, ⟨(by decide : (0 : Int) ≤ 0), (by decide : (0 : Int) ≤ 720)⟩, ⟨(by decide : (-1 : Int) ≤ -1), (by decide : (-1 : Int) < 720)⟩⟩
theorem CI.add {h : Int → Bool} {td : Int} {n : Nat} {q : Nat → Nat → Int} {rq nd : Nat → Nat} {M M4 : Nat → Int → Int} {pf : Nat → Int} (hc : CI h td n q rq nd M) (hn : n < 8) (hp : PV pf)
    (e1 : ∀ k, k < 8 + 2 * n → k ≠ 5 → M4 k = M k) (e2 : RF M4 (8 + 2 * n) pf) (e3 : M4 (8 + 2 * n) 6 = 0) (e4 : M4 (8 + 2 * n) 7 = 0) (e5 : ∀ d, 0 ≤ d → d < 720 → M4 (8 + 2 * n + 1) d = bI (dueR h pf d)) : CI h td (n + 1) (qA q n pf) (mA rq n) (mA nd n) M4 := by
  obtain ⟨c1, c2, c3, c4⟩ := hc
  refine ⟨c1.same (e1 2 (by omega) (by omega)) (e1 3 (by omega) (by omega)) (e1 4 (by omega) (by omega)), by rw [e1 0 (by omega) (by omega)]; exact c2, by omega, fun i hi => ?_⟩
  by_cases c : i = n
  · subst c
    have q1 : qA q i pf i = pf := by funext j; exact if_pos rfl
    have q2 : ∀ f : Nat → Nat, mA f i i = 0 := fun f => if_pos rfl
    rw [q1, q2, q2]
    exact ⟨e2, hp, e5, e3, by decide, e4, by decide⟩
  · have q1 : qA q n pf i = q i := by funext j; exact if_neg c
    have q2 : ∀ f : Nat → Nat, mA f n i = f i := fun f => if_neg c
    rw [q1, q2, q2]
    exact (c4 i (by omega)).same (e1 _ (by omega) (by omega)) (e1 _ (by omega) (by omega))
set_option maxHeartbeats 4000000 in
set_option maxRecDepth 100000 in
theorem c_addRule (l : Launch) (D : va_G) (cy : Nat → ClassId) (sa : Nat → Addr) (hfl : l.stackTraces = false) (ad : Nat → Nat) (n : Nat) (M : Nat → Int → Int) (h : Int → Bool) (td : Int) (q : Nat → Nat → Int) (rq nd : Nat → Nat) (hci : CI h td n q rq nd M) (kd : Int) (hkd : inR kd) (nn : Int) (hnn : inR nn) (sh : Int) (hsh : inR sh) (fs : Int) (hfs : inR fs) (ef : Int) (hef : inR ef) (va : Int) (hva : inR va) : Ct l D cy sa yX2_addRule cX2_addRule 8 (some .int) 8 16 900 (cl cy (sa 100) ad n M) [.ref (ad 0), vi kd, vi nn, vi sh, vi fs, vi ef, vi va] (fun v ws2 => kAdd n kd nn sh fs ef va = 0 ∧ v = some (vi (n : Int)) ∧ ∃ ad2 M2, ws2 = cl cy (sa 100) ad2 (n + 1) M2 ∧ ad2 0 = ad 0 ∧ CI h td (n + 1) (qA q n (pN kd nn fs ef va sh)) (mA rq n) (mA nd n) M2) (fun E ws2 => ((E = xIO ∧ kAdd n kd nn sh fs ef va = 1) ∨ (E = xIA ∧ kAdd n kd nn sh fs ef va = 2) ∨ (E = xIS ∧ kAdd n kd nn sh fs ef va = 3)) ∧ ∃ M2, ws2 = cl cy (sa 100) ad n M2 ∧ CI h td n q rq nd M2) := by
  refine Ct.of (own := RX2) (lc := [(0, .ref (ad 0)), (1, vi kd), (2, vi nn), (3, vi sh), (4, vi fs), (5, vi ef), (6, vi va)]) (by decide +kernel) hfl (Nat.le_of_ble_eq_true rfl) rfl rfl ?_
  intro p e s m args below meth c A C hex hnm
  generalize hQ : vx_MQ below (Qo D (fun v ws2 => kAdd n kd nn sh fs ef va = 0 ∧ v = some (vi (n : Int)) ∧ ∃ ad2 M2, ws2 = cl cy (sa 100) ad2 (n + 1) M2 ∧ ad2 0 = ad 0 ∧ CI h td (n + 1) (qA q n (pN kd nn fs ef va sh)) (mA rq n) (mA nd n) M2) A) (Xo D (fun E ws2 => ((E = xIO ∧ kAdd n kd nn sh fs ef va = 1) ∨ (E = xIA ∧ kAdd n kd nn sh fs ef va = 2) ∨ (E = xIS ∧ kAdd n kd nn sh fs ef va = 3)) ∧ ∃ M2, ws2 = cl cy (sa 100) ad n M2 ∧ CI h td n q rq nd M2) A) args s 16 900 A = Q
  replace hQ := hQ.symm
  obtain ⟨hc, ⟨htd, td0, td1⟩, hn, hR⟩ := id hci
  obtain ⟨hkdl, hkdr⟩ := hkd
  obtain ⟨hnnl, hnnr⟩ := hnn
  obtain ⟨hshl, hshr⟩ := hsh
  obtain ⟨hfsl, hfsr⟩ := hfs
  obtain ⟨hefl, hefr⟩ := hef
  obtain ⟨hval, hvar⟩ := hva
  refine V.iload C dX2_addRule_0 4 rfl ?_
  refine V.callS C (As := [vi fs]) (st := []) (wr := []) kS_X2_31 (c_checkDay l D cy sa hfl _ fs ⟨by omega, by omega⟩) rfl rfl rfl (Nat.le_of_ble_eq_true rfl) ⟨by decide, by decide⟩ ⟨by decide, by decide⟩ dX2_addRule_2 (fun E wsx hx => ?_) (fun v1 w2 r3 => ?_)
  · skip
    obtain ⟨rfl, rfl, hx1⟩ := hx
    rw [hQ]
    exact VX.out C hex (by decide) (by decide) ⟨Or.inl ⟨rfl, by rw [kAdd, if_neg (by rw [hx1]; decide)]⟩, M, rfl, hci⟩
  · skip
    obtain ⟨rfl, hw2, gfs0, gfs1⟩ := r3
    rw [hw2]
    show V D 8 A p l e (rmL 8 16 900) s m args below meth c Q 1 6 (cl cy (sa 100) ad n M) 5 [(0, .ref (ad 0)), (1, vi kd), (2, vi nn), (3, vi sh), (4, vi fs), (5, vi ef), (6, vi va)] []
    refine V.iload_n C dX2_addRule_5 1 rfl ?_
    refine V.iload_n C dX2_addRule_6 2 rfl ?_
    refine V.callS C (As := [vi kd, vi nn]) (st := []) (wr := []) kS_X2_71 (c_checkKind l D cy sa hfl _ kd nn ⟨by omega, by omega⟩ ⟨by omega, by omega⟩) rfl rfl rfl (Nat.le_of_ble_eq_true rfl) ⟨by decide, by decide⟩ ⟨by decide, by decide⟩ dX2_addRule_7 (fun E wsx hx => ?_) (fun v4 w5 r6 => ?_)
    · skip
      obtain ⟨rfl, rfl, hx1⟩ := hx
      rw [hQ]
      exact VX.out C hex (by decide) (by decide) ⟨Or.inr (Or.inl ⟨rfl, by rw [kAdd, if_pos (isDy_t gfs0 gfs1), if_neg (by exact fun z9 => hx1 z9.1)]⟩), M, rfl, hci⟩
    · skip
      obtain ⟨rfl, hw5, gKV⟩ := r6
      rw [hw5]
      show V D 8 A p l e (rmL 8 16 900) s m args below meth c Q 3 18 (cl cy (sa 100) ad n M) 10 [(0, .ref (ad 0)), (1, vi kd), (2, vi nn), (3, vi sh), (4, vi fs), (5, vi ef), (6, vi va)] []
      refine V.iload_n C dX2_addRule_10 3 rfl ?_
      refine V.callS C (As := [vi sh]) (st := []) (wr := []) kS_X2_74 (c_checkShift l D cy sa hfl _ sh ⟨by omega, by omega⟩) rfl rfl rfl (Nat.le_of_ble_eq_true rfl) ⟨by decide, by decide⟩ ⟨by decide, by decide⟩ dX2_addRule_11 (fun E wsx hx => ?_) (fun v7 w8 r9 => ?_)
      · skip
        obtain ⟨rfl, rfl, hx1⟩ := hx
        rw [hQ]
        exact VX.out C hex (by decide) (by decide) ⟨Or.inr (Or.inl ⟨rfl, by rw [kAdd, if_pos (isDy_t gfs0 gfs1), if_neg (by omega)]⟩), M, rfl, hci⟩
      · skip
        obtain ⟨rfl, hw8, gsh0, gsh1⟩ := r9
        rw [hw8]
        show V D 8 A p l e (rmL 8 16 900) s m args below meth c Q 4 24 (cl cy (sa 100) ad n M) 14 [(0, .ref (ad 0)), (1, vi kd), (2, vi nn), (3, vi sh), (4, vi fs), (5, vi ef), (6, vi va)] []
        refine V.iload C dX2_addRule_14 5 rfl ?_
        refine V.iconst C dX2_addRule_16 ?_
        refine V.bipush C dX2_addRule_17 (by decide) ?_
        refine V.callS C (As := [vi ef, vi 1, vi 9]) (st := []) (wr := []) kS_X2_60 (c_checkRange l D cy sa hfl _ ef 1 9 ⟨by omega, by omega⟩ ⟨by decide, by decide⟩ ⟨by decide, by decide⟩) rfl rfl rfl (Nat.le_of_ble_eq_true rfl) ⟨by decide, by decide⟩ ⟨by decide, by decide⟩ dX2_addRule_19 (fun E wsx hx => ?_) (fun v10 w11 r12 => ?_)
        · skip
          obtain ⟨rfl, rfl, hx1⟩ := hx
          rw [hQ]
          exact VX.out C hex (by decide) (by decide) ⟨Or.inr (Or.inl ⟨rfl, by rw [kAdd, if_pos (isDy_t gfs0 gfs1), if_neg (by omega)]⟩), M, rfl, hci⟩
        · skip
          obtain ⟨rfl, hw11, gef0, gef1⟩ := r12
          rw [hw11]
          show V D 8 A p l e (rmL 8 16 900) s m args below meth c Q 5 30 (cl cy (sa 100) ad n M) 22 [(0, .ref (ad 0)), (1, vi kd), (2, vi nn), (3, vi sh), (4, vi fs), (5, vi ef), (6, vi va)] []
          refine V.iload C dX2_addRule_22 6 rfl ?_
          refine V.iconst C dX2_addRule_24 ?_
          refine V.bipush C dX2_addRule_25 (by decide) ?_
          refine V.callS C (As := [vi va, vi 0, vi 99]) (st := []) (wr := []) kS_X2_60 (c_checkRange l D cy sa hfl _ va 0 99 ⟨by omega, by omega⟩ ⟨by decide, by decide⟩ ⟨by decide, by decide⟩) rfl rfl rfl (Nat.le_of_ble_eq_true rfl) ⟨by decide, by decide⟩ ⟨by decide, by decide⟩ dX2_addRule_27 (fun E wsx hx => ?_) (fun v13 w14 r15 => ?_)
          · skip
            obtain ⟨rfl, rfl, hx1⟩ := hx
            rw [hQ]
            exact VX.out C hex (by decide) (by decide) ⟨Or.inr (Or.inl ⟨rfl, by rw [kAdd, if_pos (isDy_t gfs0 gfs1), if_neg (by omega)]⟩), M, rfl, hci⟩
          · skip
            obtain ⟨rfl, hw14, gva0, gva1⟩ := r15
            rw [hw14]
            show V D 8 A p l e (rmL 8 16 900) s m args below meth c Q 6 36 (cl cy (sa 100) ad n M) 30 [(0, .ref (ad 0)), (1, vi kd), (2, vi nn), (3, vi sh), (4, vi fs), (5, vi ef), (6, vi va)] []
            refine V.aload_n C dX2_addRule_30 0 rfl ?_
            refine V.getf C (v := .ref (ad 5)) 0 cl_0 rfl inX2 1 (by decide) fl_X2_19 (fun _ h => h) rfl dX2_addRule_31 ?_
            refine V.callV C (As := []) (st := []) (wr := []) kV_X2_39 (c_size l D cy sa hfl ad n M) rfl 5 cl_5 rfl rfl rfl (Nat.le_of_ble_eq_true rfl) ⟨by decide, by decide⟩ ⟨by decide, by decide⟩ dX2_addRule_34 (fun _ _ h => h.elim) (fun v16 w17 r18 => ?_)
            obtain ⟨rfl, hw17⟩ := r18
            rw [hw17]
            show V D 8 A p l e (rmL 8 16 900) s m args below meth c Q 6 36 (cl cy (sa 100) ad n M) 37 [(0, .ref (ad 0)), (1, vi kd), (2, vi nn), (3, vi sh), (4, vi fs), (5, vi ef), (6, vi va)] [vi (n : Int)]
            refine V.bipush C dX2_addRule_37 (by decide) ?_
            refine V.icmp_lt C 52 dX2_addRule_39 (by decide) ⟨by omega, by omega⟩ ⟨by decide, by decide⟩ (fun h39 => ?_) (fun h39 => ?_)
            · skip
              have hpf : PV (pN kd nn fs ef va sh) := PV.new gKV ⟨gsh0, gsh1⟩ ⟨gef0, gef1⟩ ⟨gva0, gva1⟩ ⟨gfs0, gfs1⟩
              refine V.new C (Cn := RX1) (T := TX1) (N := 12) (ci := 2) (fs := [vi 0, vi 0, vi 0, vi 0, vi 0, vi 0, vi 0, vi 0, vi 0, vi 0, vi 0, .null]) rfl inX1 tyX1 tyX1_ok cl_X2_47 it_X1 in_X1 (by decide) (Nat.le_of_ble_eq_true rfl) (Nat.le_of_ble_eq_true rfl) dX2_addRule_52 (fun b1 => ?_)
              show V D 8 A p l e (rmL 8 16 900) s m args below meth c Q 7 48 (cl cy (sa 100) ad n M ++ [(b1, .inr (2, [vi 0, vi 0, vi 0, vi 0, vi 0, vi 0, vi 0, vi 0, vi 0, vi 0, vi 0, .null]))]) 55 [(0, .ref (ad 0)), (1, vi kd), (2, vi nn), (3, vi sh), (4, vi fs), (5, vi ef), (6, vi va)] [.ref b1]
              refine V.dup C dX2_addRule_55 rfl ?_
              refine V.iload_n C dX2_addRule_56 1 rfl ?_
              refine V.iload_n C dX2_addRule_57 2 rfl ?_
              refine V.iload_n C dX2_addRule_58 3 rfl ?_
              refine V.iload C dX2_addRule_59 4 rfl ?_
              refine V.iload C dX2_addRule_61 5 rfl ?_
              refine V.iload C dX2_addRule_63 6 rfl ?_
              refine V.callI C (As := [vi kd, vi nn, vi sh, vi fs, vi ef, vi va]) (st := [.ref b1]) (wr := cl cy (sa 100) ad n M) kI_X2_79 (c_ruleInit l D cy sa hfl b1 kd nn sh fs ef va) rfl rfl rfl (Nat.le_of_ble_eq_true rfl) ⟨by decide, by decide⟩ ⟨by decide, by decide⟩ dX2_addRule_65 (fun _ _ h => h.elim) (fun v1 w1 r1 => ?_)
              obtain ⟨rfl, b2, hw1⟩ := r1
              rw [hw1, addW]
              obtain ⟨ad2, had2⟩ : ∃ y, y = adA ad n b1 b2 := ⟨_, rfl⟩
              obtain ⟨M2, hM2⟩ : ∃ y, y = MA M n (pN kd nn fs ef va sh) := ⟨_, rfl⟩
              have ab : ad2 (8 + 2 * n) = b1 := by rw [had2]; exact if_pos rfl
              have a0 : ad2 0 = ad 0 := by rw [had2]; unfold adA; rw [if_neg (by omega), if_neg (by omega)]
              have hk2 : RF M2 (8 + 2 * n) (pN kd nn fs ef va sh) := by rw [hM2]; exact RF.new
              have m6 : M2 (8 + 2 * n) 6 = 0 := by rw [hM2]; exact if_pos rfl
              have m7 : M2 (8 + 2 * n) 7 = 0 := by rw [hM2]; exact if_pos rfl
              have mo : ∀ k, k < 8 + 2 * n → M2 k = M k := fun k hk => by rw [hM2]; exact MA_n (by omega) (by omega)
              rw [← had2, ← hM2, ← ab, ← a0]
              clear had2 hM2 ab
              show V D 8 A p l e (rmL 8 16 900) s m args below meth c Q 8 768 (cl cy (sa 100) ad2 n M2 ++ [RR ad2 n M2, DD cy ad2 n M2]) 68 [(0, .ref (ad2 0)), (1, vi kd), (2, vi nn), (3, vi sh), (4, vi fs), (5, vi ef), (6, vi va)] [.ref (ad2 (8 + 2 * n))]
              refine V.astore C (lc2 := [(7, .ref (ad2 (8 + 2 * n))), (0, .ref (ad2 0)), (1, vi kd), (2, vi nn), (3, vi sh), (4, vi fs), (5, vi ef), (6, vi va)]) dX2_addRule_68 (by decide) rfl ?_
              refine V.aload C dX2_addRule_70 0 rfl ?_
              refine V.aload_n C dX2_addRule_72 1 rfl ?_
              refine V.getf C (v := .ref (ad2 1)) 0 (apl cl_0) rfl inX2 0 (by decide) fl_X2_12 (fun _ h => h) rfl dX2_addRule_73 ?_
              refine V.perm permA ?_
              refine V.callVc C (As := [.ref (ad2 1)]) (st := []) kV_X2_49 (c_layDueDays_R l D cy sa hfl ad2 n M2 h (pN kd nn fs ef va sh) hk2 hpf (hc.same (mo 2 (by omega)) (mo 3 (by omega)) (mo 4 (by omega)))) 0 rfl rfl rfl rfl (Nat.le_of_ble_eq_true rfl) ⟨by decide, by decide⟩ ⟨by decide, by decide⟩ dX2_addRule_76 (fun _ _ h => h.elim) (fun v2 w2 r2 => ?_)
              obtain ⟨rfl, M3, hw2, n1, n2⟩ := r2
              rw [hw2, ← wrA_cong (M2 := M3) (fun k hk => n1 k (by omega))]
              refine V.perm permA.symm ?_
              show V D 8 A p l e (rmL 8 16 900) s m args below meth c Q 8 768 (cl cy (sa 100) ad2 n M3 ++ [RR ad2 n M3, DD cy ad2 n M3]) 79 [(7, .ref (ad2 (8 + 2 * n))), (0, .ref (ad2 0)), (1, vi kd), (2, vi nn), (3, vi sh), (4, vi fs), (5, vi ef), (6, vi va)] []
              refine V.aload_n C dX2_addRule_79 1 rfl ?_
              refine V.getf C (v := .ref (ad2 5)) 0 (apl cl_0) rfl inX2 1 (by decide) fl_X2_19 (fun _ h => h) rfl dX2_addRule_80 ?_
              refine V.aload C dX2_addRule_83 0 rfl ?_
              have join88 : ∀ (ad4 : Nat → Nat) (M4 : Nat → Int → Int), (ad4 0 = ad 0) → (∀ k, k < 8 + 2 * n → k ≠ 5 → M4 k = M k) → (RF M4 (8 + 2 * n) (pN kd nn fs ef va sh)) → (M4 (8 + 2 * n) 6 = 0) → (M4 (8 + 2 * n) 7 = 0) → (∀ d, 0 ≤ d → d < 720 → M4 (8 + 2 * n + 1) d = bI (dueR h (pN kd nn fs ef va sh) d)) → V D 8 A p l e (rmL 8 16 900) s m args below meth c Q 9 778 (cl cy (sa 100) ad4 (n + 1) M4) 88 [(0, .ref (ad4 0))] [vi (bI true)] := by
                intro ad4 M4 e0 e1 e2 e3 e4 e5
                refine V.pop C dX2_addRule_88 rfl ?_
                refine V.aload_n C dX2_addRule_89 0 rfl ?_
                refine V.getf C (v := .ref (ad4 5)) 0 cl_0 rfl inX2 1 (by decide) fl_X2_19 (fun _ h => h) rfl dX2_addRule_90 ?_
                refine V.callV C (As := []) (st := []) (wr := []) kV_X2_39 (c_size l D cy sa hfl ad4 (n + 1) M4) rfl 5 cl_5 rfl rfl rfl (Nat.le_of_ble_eq_true rfl) ⟨by decide, by decide⟩ ⟨by decide, by decide⟩ dX2_addRule_93 (fun _ _ h => h.elim) (fun v19 w20 r21 => ?_)
                obtain ⟨rfl, hw20⟩ := r21
                rw [hw20]
                show V D 8 A p l e (rmL 8 16 900) s m args below meth c Q 9 778 (cl cy (sa 100) ad4 (n + 1) M4) 96 [(0, .ref (ad4 0))] [vi ((n + 1 : Nat) : Int)]
                refine V.iconst C dX2_addRule_96 ?_
                refine V.isub C dX2_addRule_97 ?_
                rw [show (((n + 1 : Nat) : Int) - 1) = (n : Int) from (by omega)]
                rw [hQ]
                exact V.iret C dX2_addRule_98 (by decide) (by decide) (⟨by rw [kAdd, if_pos (isDy_t gfs0 gfs1), if_pos ⟨gKV, ⟨gsh0, gsh1⟩, ⟨gef0, gef1⟩, ⟨gva0, gva1⟩⟩, if_pos (by omega)], rfl, ad4, M4, rfl, e0, hci.add (by omega) hpf e1 e2 e3 e4 e5⟩)
              rcases Nat.eq_zero_or_pos n with hz | hz
              · subst hz
                refine V.perm permB0 ?_
                refine V.callVc C (wr := wrB cy (sa 100) ad2 0 M3) (As := [.ref (ad2 (8 + 2 * 0))]) (st := []) kV_X2_82 (c_add0 l D cy sa hfl (ad2 5) (ad2 (8 + 2 * 0)) (ruleF ad2 M3 (8 + 2 * 0)) (M3 5 0)) 0 rfl rfl rfl rfl (Nat.le_of_ble_eq_true rfl) ⟨by decide, by decide⟩ ⟨by decide, by decide⟩ dX2_addRule_85 (fun _ _ h => h.elim) (fun v3 w3 r3 => ?_)
                obtain ⟨rfl, b7, hw3⟩ := r3
                obtain ⟨ad4, h4⟩ : ∃ y, y = fun k => if k = 7 then b7 else ad2 k := ⟨_, rfl⟩
                have h4n : ∀ k, k ≠ 7 → ad4 k = ad2 k := fun k hk => by rw [h4]; exact if_neg hk
                have h47 : ad4 7 = b7 := by rw [h4]; rfl
                have ew : wrB cy (sa 100) ad2 0 M3 ++ w3 = wrB cy (sa 100) ad4 0 M3 ++ [(ad4 5, .inr (0, [vi (M3 5 0 + 1), .ref (ad4 7), vi (((0 : Nat) : Int) + 1)])), RR ad4 0 M3, (ad4 7, .inl (cy 2, 10, .inr (.inr (.inr (.inr (elF ad4 (0 + 1)))))))] := by
                  rw [hw3, wrB_cong0 h4n]
                  rw [show RR ad4 0 M3 = RR ad2 0 M3 by unfold RR ruleF; rw [h4n _ (by decide), h4n _ (by decide)], h4n 5 (by decide), h47, elF_0, show elF ad4 (0 + 1) = elF ad2 1 from funext fun j => by unfold elF; rw [h4n _ (by omega)]]
                  rfl
                rw [ew]
                rw [show (ad2 0) = ad4 0 from (h4n 0 (by decide)).symm]
                refine V.perm permC ?_
                exact V.sub [1] rfl (join88 ad4 (upM M3 5 0 (M3 5 0 + 1)) ((h4n 0 (by decide)).trans a0) (fun k hk h5 => (upM_off h5).trans ((n1 k (by omega)).trans (mo k hk))) ((hk2.same (n1 _ (by omega))).same (upM_off (by decide))) (by rw [upM_off (by decide), n1 _ (by omega)]; exact m6) (by rw [upM_off (by decide), n1 _ (by omega)]; exact m7) (by rw [upM_off (by decide)]; exact n2))
              · refine V.perm (permBN hz) ?_
                refine V.callVc C (wr := wrB cy (sa 100) ad2 n M3) (As := [.ref (ad2 (8 + 2 * n))]) (st := []) kV_X2_82 (c_addN l D cy sa hfl (ad2 5) (ad2 (8 + 2 * n)) (ad2 7) (ruleF ad2 M3 (8 + 2 * n)) (M3 5 0) (elF ad2 n) (n : Int) (by omega) (by omega)) 0 rfl rfl rfl rfl (Nat.le_of_ble_eq_true rfl) ⟨by decide, by decide⟩ ⟨by decide, by decide⟩ dX2_addRule_85 (fun _ _ h => h.elim) (fun v3 w3 r3 => ?_)
                obtain ⟨rfl, hw3⟩ := r3
                rw [hw3, elF_up]
                refine V.perm permC ?_
                exact V.sub [1] rfl (join88 ad2 (upM M3 5 0 (M3 5 0 + 1)) a0 (fun k hk h5 => (upM_off h5).trans ((n1 k (by omega)).trans (mo k hk))) ((hk2.same (n1 _ (by omega))).same (upM_off (by omega))) (by rw [upM_off (by omega), n1 _ (by omega)]; exact m6) (by rw [upM_off (by omega), n1 _ (by omega)]; exact m7) (by rw [upM_off (by omega)]; exact n2))
            · skip
              rw [hQ]
              exact V.throw_ISE C hex 4 rfl dX2_addRule_42 dX2_addRule_45 dX2_addRule_46 dX2_addRule_48 dX2_addRule_51 (by decide) (Nat.le_of_ble_eq_true rfl) (by decide) (by decide) ⟨by decide, by decide⟩ (⟨Or.inr (Or.inr ⟨rfl, by rw [kAdd, if_pos (isDy_t gfs0 gfs1), if_pos ⟨gKV, ⟨gsh0, gsh1⟩, ⟨gef0, gef1⟩, ⟨gva0, gva1⟩⟩, if_neg (by omega)]⟩), M, rfl, hci⟩)
