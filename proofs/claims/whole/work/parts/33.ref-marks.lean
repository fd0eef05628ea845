/-! the reference's marks: all rules -/
def MKr (h : Int → Bool) (x : Int) (q : Nat → Int) (M : Nat → Int → Int) : Prop := (∀ d, 0 ≤ d → d < 720 → M 13 (720 * x + d) = bI (dueR h q d)) ∧ M 15 x = ct (dueR h q) 0 720 ∧ ∀ k, 0 ≤ k → k < ct (dueR h q) 0 720 → M 14 (720 * x + k) = dk (dueR h q) 0 k
def MKi (h : Int → Bool) (i : Int) (q : Nat → Nat → Int) (M : Nat → Int → Int) : Prop := ∀ x : Int, 0 ≤ x → x < i → MKr h x (q x.toNat) M
theorem exs {d : Int} {P : Int → Prop} (h : 0 ≤ d) : (∃ e, 0 ≤ e ∧ e < d + 1 ∧ P e) ↔ ((∃ e, 0 ≤ e ∧ e < d ∧ P e) ∨ P d) := by
  constructor
  · rintro ⟨e, e0, e1, e2⟩
    by_cases c : e = d
    · exact Or.inr (c ▸ e2)
    · exact Or.inl ⟨e, e0, by omega, e2⟩
  · rintro (⟨e, e0, e1, e2⟩ | g)
    · exact ⟨e, e0, by omega, e2⟩
    · exact ⟨d, h, by omega, g⟩
theorem mark1 {h : Int → Bool} {q : Nat → Int} {M : Nat → Int → Int} {i d : Int} (h0 : 0 ≤ d)
    (f : ∀ e, 0 ≤ e → e < 720 → (M 13 (720 * i + e) = 0 ∨ M 13 (720 * i + e) = 1) ∧ (M 13 (720 * i + e) = 1 ↔ ∃ d', 0 ≤ d' ∧ d' < d ∧ nom h q d' = true ∧ mvD h q d' = e)) (hn : nom h q d = true) :
    ∀ e, 0 ≤ e → e < 720 → (upM M 13 (720 * i + mvD h q d) (bI true) 13 (720 * i + e) = 0 ∨ upM M 13 (720 * i + mvD h q d) (bI true) 13 (720 * i + e) = 1) ∧ (upM M 13 (720 * i + mvD h q d) (bI true) 13 (720 * i + e) = 1 ↔ ∃ d', 0 ≤ d' ∧ d' < d + 1 ∧ nom h q d' = true ∧ mvD h q d' = e) := by
  intro e e0 e1
  rw [exs h0]
  by_cases c : mvD h q d = e
  · rw [c, upM_s]
    exact ⟨Or.inr rfl, fun _ => Or.inr ⟨hn, rfl⟩, fun _ => rfl⟩
  · rw [upM_n (Or.inr (by omega))]
    refine ⟨(f e e0 e1).1, fun g => Or.inl ((f e e0 e1).2.mp g), fun g => ?_⟩
    rcases g with g | ⟨-, g⟩
    · exact (f e e0 e1).2.mpr g
    · exact absurd g c
theorem mark0 {h : Int → Bool} {q : Nat → Int} {M : Nat → Int → Int} {i d : Int} (h0 : 0 ≤ d)
    (f : ∀ e, 0 ≤ e → e < 720 → (M 13 (720 * i + e) = 0 ∨ M 13 (720 * i + e) = 1) ∧ (M 13 (720 * i + e) = 1 ↔ ∃ d', 0 ≤ d' ∧ d' < d ∧ nom h q d' = true ∧ mvD h q d' = e)) (hn : nom h q d = false ∨ mvD h q d = -1) :
    ∀ e, 0 ≤ e → e < 720 → (M 13 (720 * i + e) = 0 ∨ M 13 (720 * i + e) = 1) ∧ (M 13 (720 * i + e) = 1 ↔ ∃ d', 0 ≤ d' ∧ d' < d + 1 ∧ nom h q d' = true ∧ mvD h q d' = e) := by
  intro e e0 e1
  rw [exs h0]
  refine ⟨(f e e0 e1).1, fun g => Or.inl ((f e e0 e1).2.mp g), fun g => ?_⟩
  rcases g with g | ⟨g2, g⟩
  · exact (f e e0 e1).2.mpr g
  · rcases hn with hn | hn
    · rw [hn] at g2; cases g2
    · omega
theorem mark9 {h : Int → Bool} {q : Nat → Int} {v e : Int} (e0 : 0 ≤ e) (e1 : e < 720) (f : (v = 0 ∨ v = 1) ∧ (v = 1 ↔ ∃ d', 0 ≤ d' ∧ d' < 720 ∧ nom h q d' = true ∧ mvD h q d' = e)) : v = bI (dueR h q e) := by
  obtain ⟨f1, f2⟩ := f
  rw [← due_iff e0 e1] at f2
  cases hd : dueR h q e with
  | true => exact f2.mpr hd
  | false =>
    rcases f1 with g | g
    · exact g
    · rw [f2.mp g] at hd; cases hd
set_option maxHeartbeats 4000000 in
set_option maxRecDepth 100000 in
theorem c_m_marks (l : Launch) (D : va_G) (cy : Nat → ClassId) (sa : Nat → Addr) (hfl : l.stackTraces = false) (ad : Nat → Nat) (M : Nat → Int → Int) (h : Int → Bool) (td : Int) (n : Nat) (q : Nat → Nat → Int) (rq : Nat → Nat) (hmi : MI h td n q rq M) : Ct l D cy sa yX3_marks cX3_marks 4 none 4 0 0 (ml cy ad M) [.ref (ad 0)] (fun v ws2 => v = none ∧ ∃ M2, ws2 = ml cy ad M2 ∧ (∀ k, k ≠ 13 → k ≠ 14 → k ≠ 15 → M2 k = M k) ∧ MK h n q M2) no_x := by
  refine Ct.of (own := RX3) (lc := [(0, .ref (ad 0))]) (by decide +kernel) hfl (Nat.le_of_ble_eq_true rfl) rfl rfl ?_
  intro p e s m args below meth c A C hex hnm
  generalize hQ : vx_MQ below (Qo D (fun v ws2 => v = none ∧ ∃ M2, ws2 = ml cy ad M2 ∧ (∀ k, k ≠ 13 → k ≠ 14 → k ≠ 15 → M2 k = M k) ∧ MK h n q M2) A) (Xo D no_x A) args s 0 0 A = Q
  replace hQ := hQ.symm
  obtain ⟨hch, ⟨htd, td0, td1⟩, ⟨hmn, hn8⟩, hR, hZ, hQ12⟩ := id hmi
  refine V.iconst C dX3_marks_0 ?_
  refine V.istore_n C (lc2 := [(1, vi 0), (0, .ref (ad 0))]) dX3_marks_1 (by decide) rfl ?_
  have loop2 : ∀ (fz : Nat) (i : Int) (M1 : Nat → Int → Int), (0 ≤ i) → (i ≤ (n : Int)) → (∀ k, k ≠ 13 → k ≠ 14 → k ≠ 15 → M1 k = M k) → (MKi h i q M1) → (((n : Int) - i).toNat < fz) → V D 4 A p l e (rmL 4 0 0) s m args below meth c Q 0 0 (ml cy ad M1) 2 [(1, vi i), (0, .ref (ad 0))] [] := by
    intro fz
    induction fz with
    | zero => intro i M1 e0 e1 e2 e3 hf; exact absurd hf (Nat.not_lt_zero _)
    | succ fz ih2 =>
      intro i M1 e0 e1 e2 e3 hf2
      have hmi1 : MI h td n q rq M1 := hmi.same (fun k _ k12 => e2 k (by omega) (by omega) (by omega)) (by rw [e2 0 (by decide) (by decide) (by decide)]) (by rw [e2 0 (by decide) (by decide) (by decide)])
      have hR1 := hmi1.2.2.2.1
      refine V.iload_n C dX3_marks_2 0 rfl ?_
      refine V.aload_n C dX3_marks_3 1 rfl ?_
      refine V.getf C (v := vi (n : Int)) 0 rfl rfl inX3 3 (by decide) fl_X3_64 (fun _ h => h) (by show some _ = some _; rw [hmi1.2.2.1.1]) dX3_marks_4 ?_
      refine V.icmp_ge C 162 dX3_marks_7 (by decide) ⟨by omega, by omega⟩ ⟨by omega, by omega⟩ (fun h7 => ?_) (fun h7 => ?_)
      · skip
        rw [hQ]
        exact V.vret C dX3_marks_162 (by decide) (by decide) (⟨rfl, M1, rfl, e2, fun x9 a9 b9 => e3 x9 a9 (by omega)⟩)
      · skip
        refine V.iconst C dX3_marks_10 ?_
        refine V.istore_n C (lc2 := [(2, vi 0), (1, vi i), (0, .ref (ad 0))]) dX3_marks_11 (by decide) rfl ?_
        have loop12 : ∀ (fz : Nat) (d : Int) (M2 : Nat → Int → Int), (0 ≤ d) → (d ≤ 720) → (∀ k j, (k ≠ 13 ∨ j < 720 * i ∨ 720 * i + 720 ≤ j) → M2 k j = M1 k j) → (∀ e, 0 ≤ e → e < d → M2 13 (720 * i + e) = 0) → ((720 - d).toNat < fz) → V D 4 A p l e (rmL 4 0 0) s m args below meth c Q 0 0 (ml cy ad M2) 12 [(2, vi d), (0, .ref (ad 0)), (1, vi i)] [] := by
          intro fz
          induction fz with
          | zero => intro d M2 f0 f1 f2 f3 hf; exact absurd hf (Nat.not_lt_zero _)
          | succ fz ih12 =>
            intro d M2 f0 f1 f2 f3 hf12
            refine V.iload_n C dX3_marks_12 0 rfl ?_
            refine V.sipush C dX3_marks_13 (by decide) ?_
            refine V.icmp_ge C 38 dX3_marks_16 (by decide) ⟨by omega, by omega⟩ ⟨by decide, by decide⟩ (fun h16 => ?_) (fun h16 => ?_)
            · skip
              refine V.iconst C dX3_marks_38 ?_
              refine V.istore_n C (lc2 := [(2, vi 0), (0, .ref (ad 0)), (1, vi i)]) dX3_marks_39 (by decide) rfl ?_
              have loop40 : ∀ (fz : Nat) (d : Int) (M3 : Nat → Int → Int), (0 ≤ d) → (d ≤ 720) → (∀ k j, (k ≠ 13 ∨ j < 720 * i ∨ 720 * i + 720 ≤ j) → M3 k j = M1 k j) → (∀ e, 0 ≤ e → e < 720 → (M3 13 (720 * i + e) = 0 ∨ M3 13 (720 * i + e) = 1) ∧ (M3 13 (720 * i + e) = 1 ↔ ∃ d', 0 ≤ d' ∧ d' < d ∧ nom h (q i.toNat) d' = true ∧ mvD h (q i.toNat) d' = e)) → ((720 - d).toNat < fz) → V D 4 A p l e (rmL 4 0 0) s m args below meth c Q 0 0 (ml cy ad M3) 40 [(2, vi d), (0, .ref (ad 0)), (1, vi i)] [] := by
                intro fz
                induction fz with
                | zero => intro d M3 f0 f1 f2 f4 hf; exact absurd hf (Nat.not_lt_zero _)
                | succ fz ih40 =>
                  intro d M3 f0 f1 f2 f4 hf40
                  have hmi3 : MI h td n q rq M3 := hmi1.same (fun k _ k12 => funext fun j => f2 k j (Or.inl (by omega))) (f2 0 1 (Or.inl (by decide))) (f2 0 3 (Or.inl (by decide)))
                  have hR3 := hmi3.2.2.2.1
                  refine V.iload_n C dX3_marks_40 0 rfl ?_
                  refine V.sipush C dX3_marks_41 (by decide) ?_
                  refine V.icmp_ge C 91 dX3_marks_44 (by decide) ⟨by omega, by omega⟩ ⟨by decide, by decide⟩ (fun h44 => ?_) (fun h44 => ?_)
                  · skip
                    refine V.aload_n C dX3_marks_91 1 rfl ?_
                    refine V.getf C (v := .ref (ad 15)) 0 rfl rfl inX3 15 (by decide) fl_X3_47 (fun _ h => h) rfl dX3_marks_92 ?_
                    refine V.iload_n C dX3_marks_95 2 rfl ?_
                    refine V.iconst C dX3_marks_96 ?_
                    refine V.iast C 13 rfl (by omega) (by omega) (by decide) dX3_marks_97 (mput_15 (by omega)) ?_
                    refine V.iconst C dX3_marks_98 ?_
                    refine V.istore_n C (lc2 := [(2, vi 0), (0, .ref (ad 0)), (1, vi i)]) dX3_marks_99 (by decide) rfl ?_
                    have loop100 : ∀ (fz : Nat) (d : Int) (M4 : Nat → Int → Int), (0 ≤ d) → (d ≤ 720) → (∀ k j, ((k ≠ 13 ∧ k ≠ 14) ∨ j < 720 * i ∨ 720 * i + 720 ≤ j) → (k ≠ 15 ∨ j ≠ i) → M4 k j = M1 k j) → (∀ e, 0 ≤ e → e < 720 → M4 13 (720 * i + e) = bI (dueR h (q i.toNat) e)) → (M4 15 i = ct (dueR h (q i.toNat)) 0 d) → (∀ k, 0 ≤ k → k < ct (dueR h (q i.toNat)) 0 d → M4 14 (720 * i + k) = dk (dueR h (q i.toNat)) 0 k) → ((720 - d).toNat < fz) → V D 4 A p l e (rmL 4 0 0) s m args below meth c Q 0 0 (ml cy ad M4) 100 [(2, vi d), (0, .ref (ad 0)), (1, vi i)] [] := by
                      intro fz
                      induction fz with
                      | zero => intro d M4 f0 f1 f2 f5 f6 f7 hf; exact absurd hf (Nat.not_lt_zero _)
                      | succ fz ih100 =>
                        intro d M4 f0 f1 f2 f5 f6 f7 hf100
                        have cr := ct_rng (dueR h (q i.toNat)) 0 d f0
                        refine V.iload_n C dX3_marks_100 0 rfl ?_
                        refine V.sipush C dX3_marks_101 (by decide) ?_
                        refine V.icmp_ge C 156 dX3_marks_104 (by decide) ⟨by omega, by omega⟩ ⟨by decide, by decide⟩ (fun h104 => ?_) (fun h104 => ?_)
                        · skip
                          refine V.iinc C (lc2 := [(1, vi (i + 1)), (2, vi d), (0, .ref (ad 0))]) dX3_marks_156 2 rfl (by decide) rfl ?_
                          refine V.goto C 2 dX3_marks_159 (by decide) ?_
                          exact V.sub [0, 2] rfl (ih2 (i + 1) M4 (by omega) (by omega) (fun k k1 k2 k3 => (funext fun j => f2 k j (Or.inl ⟨k1, k2⟩) (Or.inl k3)).trans (e2 k k1 k2 k3)) (fun x x0 x1 => by
                                    by_cases c : x = i
                                    · subst c
                                      rw [show d = 720 by omega] at f6 f7
                                      exact ⟨f5, f6, f7⟩
                                    · obtain ⟨r1, r2, r3⟩ := e3 x x0 (by omega)
                                      refine ⟨fun d9 a b => by rw [f2 _ _ (Or.inr (by omega)) (Or.inl (by decide))]; exact r1 d9 a b, by rw [f2 _ _ (Or.inl (by decide)) (Or.inr c)]; exact r2, fun k9 a b => ?_⟩
                                      have := ct_rng (dueR h (q x.toNat)) 0 720 (by decide)
                                      rw [f2 _ _ (Or.inr (by omega)) (Or.inl (by decide))]; exact r3 k9 a b) (by omega))
                        · skip
                          refine V.aload_n C dX3_marks_107 1 rfl ?_
                          refine V.getf C (v := .ref (ad 13)) 0 rfl rfl inX3 13 (by decide) fl_X3_41 (fun _ h => h) rfl dX3_marks_108 ?_
                          refine V.sipush C dX3_marks_111 (by decide) ?_
                          refine V.iload_n C dX3_marks_114 2 rfl ?_
                          refine V.imul C dX3_marks_115 ?_
                          refine V.iload_n C dX3_marks_116 0 rfl ?_
                          refine V.iadd C dX3_marks_117 ?_
                          refine V.zald C (v := bI (dueR h (q i.toNat) d)) 11 rfl (by omega) (by omega) (by decide) (ld_ar (by omega) (f5 d f0 (by omega))) dX3_marks_118 ?_
                          refine V.if_eqB C 150 dX3_marks_119 (by decide) (fun h119 => ?_) (fun h119 => ?_)
                          · skip
                            refine V.iinc C (lc2 := [(2, vi (d + 1)), (0, .ref (ad 0)), (1, vi i)]) dX3_marks_150 0 rfl (by decide) rfl ?_
                            refine V.goto C 100 dX3_marks_153 (by decide) ?_
                            exact ih100 (d + 1) M4 (by omega) (by omega) f2 f5 (by rw [ct_up f0, h119, f6]; simp [bI]) (fun k a b => f7 k a (by rw [ct_up f0, h119] at b; simpa [bI] using b)) (by omega)
                          · skip
                            refine V.aload_n C dX3_marks_122 1 rfl ?_
                            refine V.getf C (v := .ref (ad 14)) 0 rfl rfl inX3 14 (by decide) fl_X3_44 (fun _ h => h) rfl dX3_marks_123 ?_
                            refine V.sipush C dX3_marks_126 (by decide) ?_
                            refine V.iload_n C dX3_marks_129 2 rfl ?_
                            refine V.imul C dX3_marks_130 ?_
                            refine V.aload_n C dX3_marks_131 1 rfl ?_
                            refine V.getf C (v := .ref (ad 15)) 0 rfl rfl inX3 15 (by decide) fl_X3_47 (fun _ h => h) rfl dX3_marks_132 ?_
                            refine V.iload_n C dX3_marks_135 2 rfl ?_
                            refine V.iald C (v := ct (dueR h (q i.toNat)) 0 d) 13 rfl (by omega) (by omega) (by decide) (ld_ar (by omega) f6) dX3_marks_136 ?_
                            refine V.iadd C dX3_marks_137 ?_
                            refine V.iload_n C dX3_marks_138 0 rfl ?_
                            refine V.iast C 12 rfl (by omega) (by omega) (by decide) dX3_marks_139 (mput_14 (by omega)) ?_
                            refine V.aload_n C dX3_marks_140 1 rfl ?_
                            refine V.getf C (v := .ref (ad 15)) 0 rfl rfl inX3 15 (by decide) fl_X3_47 (fun _ h => h) rfl dX3_marks_141 ?_
                            refine V.iload_n C dX3_marks_144 2 rfl ?_
                            refine V.dup2 C dX3_marks_145 rfl rfl ?_
                            refine V.iald C (v := ct (dueR h (q i.toNat)) 0 d) 13 rfl (by omega) (by omega) (by decide) (ld_ar (by omega) (by rw [upM_n (Or.inl (by decide))]; exact f6)) dX3_marks_146 ?_
                            refine V.iconst C dX3_marks_147 ?_
                            refine V.iadd C dX3_marks_148 ?_
                            refine V.iast C 13 rfl (by omega) (by omega) (by decide) dX3_marks_149 (mput_15 (by omega)) ?_
                            refine V.iinc C (lc2 := [(2, vi (d + 1)), (0, .ref (ad 0)), (1, vi i)]) dX3_marks_150 0 rfl (by decide) rfl ?_
                            refine V.goto C 100 dX3_marks_153 (by decide) ?_
                            exact ih100 (d + 1) (upM (upM M4 14 ((720 * i) + (ct (dueR h (q i.toNat)) 0 d)) d) 15 i ((ct (dueR h (q i.toNat)) 0 d) + 1)) (by omega) (by omega) (fun k j a b => by rw [upM_n (by omega), upM_n (by omega)]; exact f2 k j a b) (fun e a b => by rw [upM_n (Or.inl (by decide)), upM_n (Or.inl (by decide))]; exact f5 e a b) (by rw [upM_s, ct_up f0, h119]; rfl) (fun k a b => by
                                          rw [ct_up f0, h119, show bI true = 1 from rfl] at b
                                          rw [upM_n (Or.inl (by decide))]
                                          by_cases c : k = ct (dueR h (q i.toNat)) 0 d
                                          · rw [c, upM_s, dk_ct f0 (by omega), fst_hit (by omega) h119]
                                          · rw [upM_n (Or.inr (by omega))]; exact f7 k a (by omega)) (by omega)
                    exact loop100 _ 0 (upM M3 15 i 0) (by omega) (by omega) (fun k j a b => (upM_n (by omega)).trans (f2 k j (by omega))) (fun e a b => by rw [upM_n (Or.inl (by decide))]; exact mark9 a b (by have := f4 e a b; rwa [show d = 720 by omega] at this)) (by rw [upM_s, ct_self]) (fun k a b => by rw [ct_self] at b; omega) (Nat.lt_succ_self _)
                  · skip
                    refine V.aload_n C dX3_marks_47 1 rfl ?_
                    refine V.iload_n C dX3_marks_48 2 rfl ?_
                    refine V.iload_n C dX3_marks_49 0 rfl ?_
                    refine V.callV C (As := [vi i, vi d]) (st := []) (wr := []) kV_X3_91 (c_m_isNominal l D cy sa hfl ad M3 h td n q rq hmi3 i e0 (by omega) d f0 (by omega)) rfl 0 rfl rfl rfl rfl (Nat.le_of_ble_eq_true rfl) ⟨by decide, by decide⟩ ⟨by decide, by decide⟩ dX3_marks_50 (fun _ _ h => h.elim) (fun v1 w2 r3 => ?_)
                    obtain ⟨rfl, hw2⟩ := r3
                    rw [hw2]
                    show V D 4 A p l e (rmL 4 0 0) s m args below meth c Q 0 0 (ml cy ad M3) 53 [(2, vi d), (0, .ref (ad 0)), (1, vi i)] [vi (bI (nom h (q i.toNat) d))]
                    refine V.if_eqB C 65 dX3_marks_53 (by decide) (fun h53 => ?_) (fun h53 => ?_)
                    · skip
                      refine V.iconst C dX3_marks_65 ?_
                      refine V.istore_n C (lc2 := [(3, vi (-1)), (2, vi d), (0, .ref (ad 0)), (1, vi i)]) dX3_marks_66 (by decide) rfl ?_
                      refine V.iload_n C dX3_marks_67 0 rfl ?_
                      refine V.iconst C dX3_marks_68 ?_
                      refine V.icmp_eq C 85 dX3_marks_69 (by decide) ⟨by decide, by decide⟩ ⟨by decide, by decide⟩ (fun h69 => ?_) (fun h69 => (by exact absurd h69 (by decide)))
                      refine V.iinc C (lc2 := [(2, vi (d + 1)), (3, vi (-1)), (0, .ref (ad 0)), (1, vi i)]) dX3_marks_85 1 rfl (by decide) rfl ?_
                      refine V.goto C 40 dX3_marks_88 (by decide) ?_
                      exact V.sub [0, 2, 3] rfl (ih40 (d + 1) M3 (by omega) (by omega) f2 (mark0 f0 f4 (Or.inl h53)) (by omega))
                    · skip
                      refine V.aload_n C dX3_marks_56 1 rfl ?_
                      refine V.iload_n C dX3_marks_57 2 rfl ?_
                      refine V.iload_n C dX3_marks_58 0 rfl ?_
                      refine V.callV C (As := [vi i, vi d]) (st := []) (wr := []) kV_X3_94 (c_m_moved l D cy sa hfl ad M3 h td n q rq hmi3 i e0 (by omega) d f0 (by omega)) rfl 0 rfl rfl rfl rfl (Nat.le_of_ble_eq_true rfl) ⟨by decide, by decide⟩ ⟨by decide, by decide⟩ dX3_marks_59 (fun _ _ h => h.elim) (fun v4 w5 r6 => ?_)
                      obtain ⟨rfl, hw5⟩ := r6
                      rw [hw5]
                      show V D 4 A p l e (rmL 4 0 0) s m args below meth c Q 0 0 (ml cy ad M3) 62 [(2, vi d), (0, .ref (ad 0)), (1, vi i)] [vi (mvD h (q i.toNat) d)]
                      have mr := mvD_rng h (q i.toNat) f0 (show d < 720 by omega)
                      refine V.goto C 66 dX3_marks_62 (by decide) ?_
                      refine V.istore_n C (lc2 := [(3, vi (mvD h (q i.toNat) d)), (2, vi d), (0, .ref (ad 0)), (1, vi i)]) dX3_marks_66 (by decide) rfl ?_
                      refine V.iload_n C dX3_marks_67 0 rfl ?_
                      refine V.iconst C dX3_marks_68 ?_
                      refine V.icmp_eq C 85 dX3_marks_69 (by decide) ⟨by omega, by omega⟩ ⟨by decide, by decide⟩ (fun h69 => ?_) (fun h69 => ?_)
                      · skip
                        refine V.iinc C (lc2 := [(2, vi (d + 1)), (3, vi (mvD h (q i.toNat) d)), (0, .ref (ad 0)), (1, vi i)]) dX3_marks_85 1 rfl (by decide) rfl ?_
                        refine V.goto C 40 dX3_marks_88 (by decide) ?_
                        exact V.sub [0, 2, 3] rfl (ih40 (d + 1) M3 (by omega) (by omega) f2 (mark0 f0 f4 (Or.inr h69)) (by omega))
                      · skip
                        refine V.aload_n C dX3_marks_72 2 rfl ?_
                        refine V.getf C (v := .ref (ad 13)) 0 rfl rfl inX3 13 (by decide) fl_X3_41 (fun _ h => h) rfl dX3_marks_73 ?_
                        refine V.sipush C dX3_marks_76 (by decide) ?_
                        refine V.iload_n C dX3_marks_79 3 rfl ?_
                        refine V.imul C dX3_marks_80 ?_
                        refine V.iload_n C dX3_marks_81 0 rfl ?_
                        refine V.iadd C dX3_marks_82 ?_
                        refine V.iconst C dX3_marks_83 ?_
                        show V D 4 A p l e (rmL 4 0 0) s m args below meth c Q 0 0 (ml cy ad M3) 84 [(3, vi (mvD h (q i.toNat) d)), (2, vi d), (0, .ref (ad 0)), (1, vi i)] [vi (bI true), vi ((720 * i) + (mvD h (q i.toNat) d)), .ref (ad 13)]
                        refine V.zast C 11 rfl (by omega) (by omega) (by decide) dX3_marks_84 (mput_13 (by omega)) ?_
                        refine V.iinc C (lc2 := [(2, vi (d + 1)), (3, vi (mvD h (q i.toNat) d)), (0, .ref (ad 0)), (1, vi i)]) dX3_marks_85 1 rfl (by decide) rfl ?_
                        refine V.goto C 40 dX3_marks_88 (by decide) ?_
                        exact V.sub [0, 2, 3] rfl (ih40 (d + 1) (upM M3 13 ((720 * i) + (mvD h (q i.toNat) d)) (bI true)) (by omega) (by omega) (fun k j hkj => (upM_n (by omega)).trans (f2 k j hkj)) (mark1 f0 f4 h53) (by omega))
              exact loop40 _ 0 M2 (by omega) (by omega) f2 (fun e a b => by
                          rw [f3 e a (by omega)]
                          refine ⟨Or.inl rfl, fun z => by omega, ?_⟩
                          rintro ⟨d9, z0, z1, -⟩
                          omega) (Nat.lt_succ_self _)
            · skip
              refine V.aload_n C dX3_marks_19 1 rfl ?_
              refine V.getf C (v := .ref (ad 13)) 0 rfl rfl inX3 13 (by decide) fl_X3_41 (fun _ h => h) rfl dX3_marks_20 ?_
              refine V.sipush C dX3_marks_23 (by decide) ?_
              refine V.iload_n C dX3_marks_26 2 rfl ?_
              refine V.imul C dX3_marks_27 ?_
              refine V.iload_n C dX3_marks_28 0 rfl ?_
              refine V.iadd C dX3_marks_29 ?_
              refine V.iconst C dX3_marks_30 ?_
              show V D 4 A p l e (rmL 4 0 0) s m args below meth c Q 0 0 (ml cy ad M2) 31 [(2, vi d), (0, .ref (ad 0)), (1, vi i)] [vi (bI false), vi ((720 * i) + d), .ref (ad 13)]
              refine V.zast C 11 rfl (by omega) (by omega) (by decide) dX3_marks_31 (mput_13 (by omega)) ?_
              refine V.iinc C (lc2 := [(2, vi (d + 1)), (0, .ref (ad 0)), (1, vi i)]) dX3_marks_32 0 rfl (by decide) rfl ?_
              refine V.goto C 12 dX3_marks_35 (by decide) ?_
              exact ih12 (d + 1) (upM M2 13 ((720 * i) + d) (bI false)) (by omega) (by omega) (fun k j hkj => (upM_n (by omega)).trans (f2 k j hkj)) (fun e a b => by
                          by_cases c : e = d
                          · rw [c, upM_s]; rfl
                          · rw [upM_n (Or.inr (by omega))]; exact f3 e a (by omega)) (by omega)
        exact V.sub [0, 2, 1] rfl (loop12 _ 0 M1 (by omega) (by omega) (fun _ _ _ => rfl) (fun _ _ _ => by omega) (Nat.lt_succ_self _))
  exact loop2 _ 0 M (by omega) (by omega) (fun _ _ _ _ => rfl) (fun x _ _ => by omega) (Nat.lt_succ_self _)
