/-! the law's loop: its cases -/
/-- the law at a place of its loop, over every state of the class -/
def LV (D : va_G) (cy : Nat → ClassId) (sa : Nat → Addr) (A : Nat → Prop) (p : Program) (l : Launch) (e : Env) (s : State) (m : MethodId) (args : Array Value) (below : List Frame) (meth : Method) (c : Code) (Q : State → Prop) (o g : Nat) (k n pc : Nat) (lo : List (Nat × Value)) (st : List Value) : Prop :=
  ∀ (f : Int → Int) (ad : Nat → Nat) (nr : Nat) (M : Nat → Int → Int) (h : Int → Bool) (td : Int) (q : Nat → Nat → Int) (rq nd : Nat → Nat), ad 0 = o → CI h td nr q rq nd M → LA nr rq nd → f 0 = SF q nr →
    V D 11 A p l e room_1 s m args below meth c Q k n ([(g, arI cy 1 f)] ++ cl cy (sa 100) ad nr M) pc (lo ++ [(0, .ref (sa 101)), (1, .ref o), (2, .ref g)]) st
set_option maxHeartbeats 4000000 in
set_option maxRecDepth 100000 in
theorem law_c72 {p : Program} {l : Launch} {e : Env} {s : State} {m : MethodId} {args : Array Value} {below : List Frame} {meth : Method} {c : Code} {D : va_G} {cy : Nat → ClassId} {sa : Nat → Addr} {A : Nat → Prop} {Q : State → Prop} (hfl : l.stackTraces = false) (C : Cx D cy sa RL cL_law 11 (some .boolean) A p l s m args meth c) {k n : Nat} (hk : k + 1300 ≤ 600074) (hn9 : n + 7800 ≤ 7301550) (g : Nat) (f : Int → Int) (ad : Nat → Nat) (nr : Nat) (M : Nat → Int → Int) (h : Int → Bool) (td : Int) (q : Nat → Nat → Int) (rq nd : Nat → Nat) (hci : CI h td nr q rq nd M) (hla : LA nr rq nd) (hf : f 0 = SF q nr) (i v w wt : Int) (hv : inR v) (hw : inR w) (kk : ∀ k2 n2 : Nat, k2 ≤ k + 1300 → n2 ≤ n + 7800 → LV D cy sa A p l e s m args below meth c Q (ad 0) g k2 n2 532 [(3, vi i)] []) (hn7 : nr < 8) : V D 11 A p l e room_1 s m args below meth c Q k n ([(g, arI cy 1 f)] ++ cl cy (sa 100) ad nr M) 72 [(7, vi (nr : Int)), (6, vi wt), (5, vi w), (4, vi v), (3, vi i), (0, .ref (sa 101)), (1, .ref (ad 0)), (2, .ref g)] [] := by
  obtain ⟨-, ⟨-, td0, td1⟩, hn8, -⟩ := id hci
  refine V.iload C dL_law_72 3 rfl ?_
  refine V.iconst C dL_law_74 ?_
  refine V.ishr C (z := shrF v 4) dL_law_75 (shrF_eq _ _) ?_
  refine V.iconst C dL_law_76 ?_
  refine V.callS C (As := [vi (shrF v 4), vi 4]) (st := []) (wr := []) kS_L_61 (c_low l D cy sa hfl _ (shrF v 4) 4 (shrF_in _ _) ⟨by omega, by omega⟩) rfl rfl rfl (Nat.le_of_ble_eq_true rfl) ⟨by decide, by decide⟩ ⟨by show _ ≤ 600074; omega, by show _ ≤ 7301550; omega⟩ dL_law_77 (fun _ _ h => h.elim) (fun v1 w2 r3 => ?_)
  obtain ⟨rfl, hw2⟩ := r3
  rw [hw2]
  show V D 11 A p l e room_1 s m args below meth c Q k n ([(g, arI cy 1 f)] ++ cl cy (sa 100) ad nr M) 80 [(7, vi (nr : Int)), (6, vi wt), (5, vi w), (4, vi v), (3, vi i), (0, .ref (sa 101)), (1, .ref (ad 0)), (2, .ref g)] [vi (lowF (shrF v 4) 4)]
  obtain ⟨kd, hkd⟩ : ∃ y9, y9 = lowF (shrF v 4) 4 := ⟨_, rfl⟩
  rw [← hkd]
  have rkd := lowF_rng (v := shrF v 4) (n := 4) (by omega)
  rw [← hkd] at rkd
  skip
  refine V.istore C (lc2 := [(8, vi kd), (7, vi (nr : Int)), (6, vi wt), (5, vi w), (4, vi v), (3, vi i), (0, .ref (sa 101)), (1, .ref (ad 0)), (2, .ref g)]) dL_law_80 (by decide) rfl ?_
  refine V.iload C dL_law_82 0 rfl ?_
  refine V.if_ne C 99 dL_law_84 (by decide) ⟨by omega, by omega⟩ (fun h84 => ?_) (fun h84 => ?_)
  · skip
    refine V.iload C dL_law_99 0 rfl ?_
    refine V.iconst C dL_law_101 ?_
    refine V.icmp_ne C 115 dL_law_102 (by decide) ⟨by omega, by omega⟩ ⟨by decide, by decide⟩ (fun h102 => ?_) (fun h102 => ?_)
    · skip
      refine V.iconst C dL_law_115 ?_
      refine V.iload C dL_law_116 3 rfl ?_
      refine V.bipush C dL_law_118 (by decide) ?_
      refine V.callS C (As := [vi w, vi 22]) (st := [vi 1]) (wr := []) kS_L_61 (c_low l D cy sa hfl _ w 22 hw ⟨by omega, by omega⟩) rfl rfl rfl (Nat.le_of_ble_eq_true rfl) ⟨by decide, by decide⟩ ⟨by show _ ≤ 600074; omega, by show _ ≤ 7301550; omega⟩ dL_law_120 (fun _ _ h => h.elim) (fun v4 w5 r6 => ?_)
      obtain ⟨rfl, hw5⟩ := r6
      rw [hw5]
      show V D 11 A p l e room_1 s m args below meth c Q k n ([(g, arI cy 1 f)] ++ cl cy (sa 100) ad nr M) 123 [(8, vi kd), (7, vi (nr : Int)), (6, vi wt), (5, vi w), (4, vi v), (3, vi i), (0, .ref (sa 101)), (1, .ref (ad 0)), (2, .ref g)] [vi (lowF w 22), vi 1]
      obtain ⟨y3, hy3⟩ : ∃ y9, y9 = lowF w 22 := ⟨_, rfl⟩
      rw [← hy3]
      have ry3 := lowF_rng (v := w) (n := 22) (by omega)
      rw [← hy3] at ry3
      skip
      refine V.iadd C dL_law_123 ?_
      refine V.istore C (lc2 := [(9, vi (1 + y3)), (8, vi kd), (7, vi (nr : Int)), (6, vi wt), (5, vi w), (4, vi v), (3, vi i), (0, .ref (sa 101)), (1, .ref (ad 0)), (2, .ref g)]) dL_law_124 (by decide) rfl ?_
      refine V.aload_n C dL_law_126 8 rfl ?_
      refine V.iload C dL_law_127 1 rfl ?_
      refine V.iload C dL_law_129 0 rfl ?_
      refine V.iload C dL_law_131 5 rfl ?_
      refine V.bipush C dL_law_133 (by decide) ?_
      refine V.ishr C (z := shrF v 7) dL_law_135 (shrF_eq _ _) ?_
      refine V.iconst C dL_law_136 ?_
      refine V.callS C (As := [vi (shrF v 7), vi 3]) (st := [vi (1 + y3), vi kd, .ref (ad 0)]) (wr := []) kS_L_61 (c_low l D cy sa hfl _ (shrF v 7) 3 (shrF_in _ _) ⟨by omega, by omega⟩) rfl rfl rfl (Nat.le_of_ble_eq_true rfl) ⟨by decide, by decide⟩ ⟨by show _ ≤ 600074; omega, by show _ ≤ 7301550; omega⟩ dL_law_137 (fun _ _ h => h.elim) (fun v7 w8 r9 => ?_)
      obtain ⟨rfl, hw8⟩ := r9
      rw [hw8]
      show V D 11 A p l e room_1 s m args below meth c Q k n ([(g, arI cy 1 f)] ++ cl cy (sa 100) ad nr M) 140 [(9, vi (1 + y3)), (8, vi kd), (7, vi (nr : Int)), (6, vi wt), (5, vi w), (4, vi v), (3, vi i), (0, .ref (sa 101)), (1, .ref (ad 0)), (2, .ref g)] [vi (lowF (shrF v 7) 3), vi (1 + y3), vi kd, .ref (ad 0)]
      obtain ⟨y4, hy4⟩ : ∃ y9, y9 = lowF (shrF v 7) 3 := ⟨_, rfl⟩
      rw [← hy4]
      have ry4 := lowF_rng (v := shrF v 7) (n := 3) (by omega)
      rw [← hy4] at ry4
      skip
      refine V.iload C dL_law_140 4 rfl ?_
      refine V.bipush C dL_law_142 (by decide) ?_
      refine V.ishr C (z := shrF w 7) dL_law_144 (shrF_eq _ _) ?_
      refine V.sipush C dL_law_145 (by decide) ?_
      refine V.callS C (As := [vi (shrF w 7), vi 300]) (st := [vi y4, vi (1 + y3), vi kd, .ref (ad 0)]) (wr := []) kS_L_61 (c_low l D cy sa hfl _ (shrF w 7) 300 (shrF_in _ _) ⟨by omega, by omega⟩) rfl rfl rfl (Nat.le_of_ble_eq_true rfl) ⟨by decide, by decide⟩ ⟨by show _ ≤ 600074; omega, by show _ ≤ 7301550; omega⟩ dL_law_148 (fun _ _ h => h.elim) (fun v10 w11 r12 => ?_)
      obtain ⟨rfl, hw11⟩ := r12
      rw [hw11]
      show V D 11 A p l e room_1 s m args below meth c Q k n ([(g, arI cy 1 f)] ++ cl cy (sa 100) ad nr M) 151 [(9, vi (1 + y3)), (8, vi kd), (7, vi (nr : Int)), (6, vi wt), (5, vi w), (4, vi v), (3, vi i), (0, .ref (sa 101)), (1, .ref (ad 0)), (2, .ref g)] [vi (lowF (shrF w 7) 300), vi y4, vi (1 + y3), vi kd, .ref (ad 0)]
      obtain ⟨y5, hy5⟩ : ∃ y9, y9 = lowF (shrF w 7) 300 := ⟨_, rfl⟩
      rw [← hy5]
      have ry5 := lowF_rng (v := shrF w 7) (n := 300) (by omega)
      rw [← hy5] at ry5
      skip
      refine V.iconst C dL_law_151 ?_
      refine V.iload C dL_law_152 4 rfl ?_
      refine V.bipush C dL_law_154 (by decide) ?_
      refine V.ishr C (z := shrF w 16) dL_law_156 (shrF_eq _ _) ?_
      refine V.bipush C dL_law_157 (by decide) ?_
      refine V.callS C (As := [vi (shrF w 16), vi 9]) (st := [vi 1, vi y5, vi y4, vi (1 + y3), vi kd, .ref (ad 0)]) (wr := []) kS_L_61 (c_low l D cy sa hfl _ (shrF w 16) 9 (shrF_in _ _) ⟨by omega, by omega⟩) rfl rfl rfl (Nat.le_of_ble_eq_true rfl) ⟨by decide, by decide⟩ ⟨by show _ ≤ 600074; omega, by show _ ≤ 7301550; omega⟩ dL_law_159 (fun _ _ h => h.elim) (fun v13 w14 r15 => ?_)
      obtain ⟨rfl, hw14⟩ := r15
      rw [hw14]
      show V D 11 A p l e room_1 s m args below meth c Q k n ([(g, arI cy 1 f)] ++ cl cy (sa 100) ad nr M) 162 [(9, vi (1 + y3)), (8, vi kd), (7, vi (nr : Int)), (6, vi wt), (5, vi w), (4, vi v), (3, vi i), (0, .ref (sa 101)), (1, .ref (ad 0)), (2, .ref g)] [vi (lowF (shrF w 16) 9), vi 1, vi y5, vi y4, vi (1 + y3), vi kd, .ref (ad 0)]
      obtain ⟨y6, hy6⟩ : ∃ y9, y9 = lowF (shrF w 16) 9 := ⟨_, rfl⟩
      rw [← hy6]
      have ry6 := lowF_rng (v := shrF w 16) (n := 9) (by omega)
      rw [← hy6] at ry6
      skip
      refine V.iadd C dL_law_162 ?_
      refine V.iload C dL_law_163 5 rfl ?_
      refine V.bipush C dL_law_165 (by decide) ?_
      refine V.ishr C (z := shrF v 10) dL_law_167 (shrF_eq _ _) ?_
      refine V.bipush C dL_law_168 (by decide) ?_
      refine V.callS C (As := [vi (shrF v 10), vi 100]) (st := [vi (1 + y6), vi y5, vi y4, vi (1 + y3), vi kd, .ref (ad 0)]) (wr := []) kS_L_61 (c_low l D cy sa hfl _ (shrF v 10) 100 (shrF_in _ _) ⟨by omega, by omega⟩) rfl rfl rfl (Nat.le_of_ble_eq_true rfl) ⟨by decide, by decide⟩ ⟨by show _ ≤ 600074; omega, by show _ ≤ 7301550; omega⟩ dL_law_170 (fun _ _ h => h.elim) (fun v16 w17 r18 => ?_)
      obtain ⟨rfl, hw17⟩ := r18
      rw [hw17]
      show V D 11 A p l e room_1 s m args below meth c Q k n ([(g, arI cy 1 f)] ++ cl cy (sa 100) ad nr M) 173 [(9, vi (1 + y3)), (8, vi kd), (7, vi (nr : Int)), (6, vi wt), (5, vi w), (4, vi v), (3, vi i), (0, .ref (sa 101)), (1, .ref (ad 0)), (2, .ref g)] [vi (lowF (shrF v 10) 100), vi (1 + y6), vi y5, vi y4, vi (1 + y3), vi kd, .ref (ad 0)]
      obtain ⟨y7, hy7⟩ : ∃ y9, y9 = lowF (shrF v 10) 100 := ⟨_, rfl⟩
      rw [← hy7]
      have ry7 := lowF_rng (v := shrF v 10) (n := 100) (by omega)
      rw [← hy7] at ry7
      skip
      have kz1 : kAdd nr kd (1 + y3) y4 y5 (1 + y6) y7 = 0 := kAdd_0 hn7 ⟨by omega, by omega⟩ (fun _ => ⟨by omega, by omega⟩) (fun _ => ⟨by omega, by omega⟩) (fun _ => ⟨by omega, by omega⟩) ⟨by omega, by omega⟩ ⟨by omega, by omega⟩ ⟨by omega, by omega⟩ ⟨by omega, by omega⟩
      refine V.callVc C (wr := [(g, arI cy 1 f)]) (As := [vi kd, vi (1 + y3), vi y4, vi y5, vi (1 + y6), vi y7]) (st := []) (b := ad 0) kV_L_64 (c_addRule l D cy sa hfl ad nr M h td q rq nd hci kd ⟨by omega, by omega⟩ (1 + y3) ⟨by omega, by omega⟩ y4 ⟨by omega, by omega⟩ y5 ⟨by omega, by omega⟩ (1 + y6) ⟨by omega, by omega⟩ y7 ⟨by omega, by omega⟩) 0 cl_0 rfl rfl rfl (Nat.le_of_ble_eq_true rfl) ⟨by decide, by decide⟩ ⟨by show _ ≤ 600074; omega, by show _ ≤ 7301550; omega⟩ dL_law_173 (fun E9 w9 hx9 => (by obtain ⟨hx9, -⟩ := hx9; exfalso; omega)) (fun v1 w1 r1 => ?_)
      obtain ⟨-, rfl, ad1, M1, hw1, ha1, hc1⟩ := r1
      rw [hw1]
      show V D 11 A p l e room_1 s m args below meth c Q (k + 16) (n + 900) ([(g, arI cy 1 f)] ++ cl cy (sa 100) ad1 (nr + 1) M1) 176 [(9, vi (1 + y3)), (8, vi kd), (7, vi (nr : Int)), (6, vi wt), (5, vi w), (4, vi v), (3, vi i), (0, .ref (sa 101)), (1, .ref (ad 0)), (2, .ref g)] [vi (nr : Int)]
      skip
      refine V.iload C dL_law_176 2 rfl ?_
      refine V.icmp_eq C 183 dL_law_178 (by decide) ⟨by omega, by omega⟩ ⟨by omega, by omega⟩ (fun h178 => ?_) (fun h178 => (by exact absurd rfl h178))
      refine V.goto C 532 dL_law_183 (by decide) ?_
      exact V.sub [6, 7, 8, 9] rfl (kk _ _ (by omega) (by omega) f ad1 (nr + 1) M1 h td (qA q nr (pN kd (1 + y3) y5 (1 + y6) y7 y4)) (mA rq nr) (mA nd nr) ha1 hc1 hla.add (hf.trans SF.add.symm))
    · skip
      refine V.iload C dL_law_105 3 rfl ?_
      refine V.bipush C dL_law_107 (by decide) ?_
      refine V.callS C (As := [vi w, vi 30]) (st := []) (wr := []) kS_L_61 (c_low l D cy sa hfl _ w 30 hw ⟨by omega, by omega⟩) rfl rfl rfl (Nat.le_of_ble_eq_true rfl) ⟨by decide, by decide⟩ ⟨by show _ ≤ 600074; omega, by show _ ≤ 7301550; omega⟩ dL_law_109 (fun _ _ h => h.elim) (fun v19 w20 r21 => ?_)
      obtain ⟨rfl, hw20⟩ := r21
      rw [hw20]
      show V D 11 A p l e room_1 s m args below meth c Q k n ([(g, arI cy 1 f)] ++ cl cy (sa 100) ad nr M) 112 [(8, vi kd), (7, vi (nr : Int)), (6, vi wt), (5, vi w), (4, vi v), (3, vi i), (0, .ref (sa 101)), (1, .ref (ad 0)), (2, .ref g)] [vi (lowF w 30)]
      obtain ⟨y2, hy2⟩ : ∃ y9, y9 = lowF w 30 := ⟨_, rfl⟩
      rw [← hy2]
      have ry2 := lowF_rng (v := w) (n := 30) (by omega)
      rw [← hy2] at ry2
      skip
      refine V.goto C 124 dL_law_112 (by decide) ?_
      refine V.istore C (lc2 := [(9, vi y2), (8, vi kd), (7, vi (nr : Int)), (6, vi wt), (5, vi w), (4, vi v), (3, vi i), (0, .ref (sa 101)), (1, .ref (ad 0)), (2, .ref g)]) dL_law_124 (by decide) rfl ?_
      refine V.aload_n C dL_law_126 8 rfl ?_
      refine V.iload C dL_law_127 1 rfl ?_
      refine V.iload C dL_law_129 0 rfl ?_
      refine V.iload C dL_law_131 5 rfl ?_
      refine V.bipush C dL_law_133 (by decide) ?_
      refine V.ishr C (z := shrF v 7) dL_law_135 (shrF_eq _ _) ?_
      refine V.iconst C dL_law_136 ?_
      refine V.callS C (As := [vi (shrF v 7), vi 3]) (st := [vi y2, vi kd, .ref (ad 0)]) (wr := []) kS_L_61 (c_low l D cy sa hfl _ (shrF v 7) 3 (shrF_in _ _) ⟨by omega, by omega⟩) rfl rfl rfl (Nat.le_of_ble_eq_true rfl) ⟨by decide, by decide⟩ ⟨by show _ ≤ 600074; omega, by show _ ≤ 7301550; omega⟩ dL_law_137 (fun _ _ h => h.elim) (fun v22 w23 r24 => ?_)
      obtain ⟨rfl, hw23⟩ := r24
      rw [hw23]
      show V D 11 A p l e room_1 s m args below meth c Q k n ([(g, arI cy 1 f)] ++ cl cy (sa 100) ad nr M) 140 [(9, vi y2), (8, vi kd), (7, vi (nr : Int)), (6, vi wt), (5, vi w), (4, vi v), (3, vi i), (0, .ref (sa 101)), (1, .ref (ad 0)), (2, .ref g)] [vi (lowF (shrF v 7) 3), vi y2, vi kd, .ref (ad 0)]
      obtain ⟨y4, hy4⟩ : ∃ y9, y9 = lowF (shrF v 7) 3 := ⟨_, rfl⟩
      rw [← hy4]
      have ry4 := lowF_rng (v := shrF v 7) (n := 3) (by omega)
      rw [← hy4] at ry4
      skip
      refine V.iload C dL_law_140 4 rfl ?_
      refine V.bipush C dL_law_142 (by decide) ?_
      refine V.ishr C (z := shrF w 7) dL_law_144 (shrF_eq _ _) ?_
      refine V.sipush C dL_law_145 (by decide) ?_
      refine V.callS C (As := [vi (shrF w 7), vi 300]) (st := [vi y4, vi y2, vi kd, .ref (ad 0)]) (wr := []) kS_L_61 (c_low l D cy sa hfl _ (shrF w 7) 300 (shrF_in _ _) ⟨by omega, by omega⟩) rfl rfl rfl (Nat.le_of_ble_eq_true rfl) ⟨by decide, by decide⟩ ⟨by show _ ≤ 600074; omega, by show _ ≤ 7301550; omega⟩ dL_law_148 (fun _ _ h => h.elim) (fun v25 w26 r27 => ?_)
      obtain ⟨rfl, hw26⟩ := r27
      rw [hw26]
      show V D 11 A p l e room_1 s m args below meth c Q k n ([(g, arI cy 1 f)] ++ cl cy (sa 100) ad nr M) 151 [(9, vi y2), (8, vi kd), (7, vi (nr : Int)), (6, vi wt), (5, vi w), (4, vi v), (3, vi i), (0, .ref (sa 101)), (1, .ref (ad 0)), (2, .ref g)] [vi (lowF (shrF w 7) 300), vi y4, vi y2, vi kd, .ref (ad 0)]
      obtain ⟨y5, hy5⟩ : ∃ y9, y9 = lowF (shrF w 7) 300 := ⟨_, rfl⟩
      rw [← hy5]
      have ry5 := lowF_rng (v := shrF w 7) (n := 300) (by omega)
      rw [← hy5] at ry5
      skip
      refine V.iconst C dL_law_151 ?_
      refine V.iload C dL_law_152 4 rfl ?_
      refine V.bipush C dL_law_154 (by decide) ?_
      refine V.ishr C (z := shrF w 16) dL_law_156 (shrF_eq _ _) ?_
      refine V.bipush C dL_law_157 (by decide) ?_
      refine V.callS C (As := [vi (shrF w 16), vi 9]) (st := [vi 1, vi y5, vi y4, vi y2, vi kd, .ref (ad 0)]) (wr := []) kS_L_61 (c_low l D cy sa hfl _ (shrF w 16) 9 (shrF_in _ _) ⟨by omega, by omega⟩) rfl rfl rfl (Nat.le_of_ble_eq_true rfl) ⟨by decide, by decide⟩ ⟨by show _ ≤ 600074; omega, by show _ ≤ 7301550; omega⟩ dL_law_159 (fun _ _ h => h.elim) (fun v28 w29 r30 => ?_)
      obtain ⟨rfl, hw29⟩ := r30
      rw [hw29]
      show V D 11 A p l e room_1 s m args below meth c Q k n ([(g, arI cy 1 f)] ++ cl cy (sa 100) ad nr M) 162 [(9, vi y2), (8, vi kd), (7, vi (nr : Int)), (6, vi wt), (5, vi w), (4, vi v), (3, vi i), (0, .ref (sa 101)), (1, .ref (ad 0)), (2, .ref g)] [vi (lowF (shrF w 16) 9), vi 1, vi y5, vi y4, vi y2, vi kd, .ref (ad 0)]
      obtain ⟨y6, hy6⟩ : ∃ y9, y9 = lowF (shrF w 16) 9 := ⟨_, rfl⟩
      rw [← hy6]
      have ry6 := lowF_rng (v := shrF w 16) (n := 9) (by omega)
      rw [← hy6] at ry6
      skip
      refine V.iadd C dL_law_162 ?_
      refine V.iload C dL_law_163 5 rfl ?_
      refine V.bipush C dL_law_165 (by decide) ?_
      refine V.ishr C (z := shrF v 10) dL_law_167 (shrF_eq _ _) ?_
      refine V.bipush C dL_law_168 (by decide) ?_
      refine V.callS C (As := [vi (shrF v 10), vi 100]) (st := [vi (1 + y6), vi y5, vi y4, vi y2, vi kd, .ref (ad 0)]) (wr := []) kS_L_61 (c_low l D cy sa hfl _ (shrF v 10) 100 (shrF_in _ _) ⟨by omega, by omega⟩) rfl rfl rfl (Nat.le_of_ble_eq_true rfl) ⟨by decide, by decide⟩ ⟨by show _ ≤ 600074; omega, by show _ ≤ 7301550; omega⟩ dL_law_170 (fun _ _ h => h.elim) (fun v31 w32 r33 => ?_)
      obtain ⟨rfl, hw32⟩ := r33
      rw [hw32]
      show V D 11 A p l e room_1 s m args below meth c Q k n ([(g, arI cy 1 f)] ++ cl cy (sa 100) ad nr M) 173 [(9, vi y2), (8, vi kd), (7, vi (nr : Int)), (6, vi wt), (5, vi w), (4, vi v), (3, vi i), (0, .ref (sa 101)), (1, .ref (ad 0)), (2, .ref g)] [vi (lowF (shrF v 10) 100), vi (1 + y6), vi y5, vi y4, vi y2, vi kd, .ref (ad 0)]
      obtain ⟨y7, hy7⟩ : ∃ y9, y9 = lowF (shrF v 10) 100 := ⟨_, rfl⟩
      rw [← hy7]
      have ry7 := lowF_rng (v := shrF v 10) (n := 100) (by omega)
      rw [← hy7] at ry7
      skip
      have kz2 : kAdd nr kd y2 y4 y5 (1 + y6) y7 = 0 := kAdd_0 hn7 ⟨by omega, by omega⟩ (fun _ => ⟨by omega, by omega⟩) (fun _ => ⟨by omega, by omega⟩) (fun _ => ⟨by omega, by omega⟩) ⟨by omega, by omega⟩ ⟨by omega, by omega⟩ ⟨by omega, by omega⟩ ⟨by omega, by omega⟩
      refine V.callVc C (wr := [(g, arI cy 1 f)]) (As := [vi kd, vi y2, vi y4, vi y5, vi (1 + y6), vi y7]) (st := []) (b := ad 0) kV_L_64 (c_addRule l D cy sa hfl ad nr M h td q rq nd hci kd ⟨by omega, by omega⟩ y2 ⟨by omega, by omega⟩ y4 ⟨by omega, by omega⟩ y5 ⟨by omega, by omega⟩ (1 + y6) ⟨by omega, by omega⟩ y7 ⟨by omega, by omega⟩) 0 cl_0 rfl rfl rfl (Nat.le_of_ble_eq_true rfl) ⟨by decide, by decide⟩ ⟨by show _ ≤ 600074; omega, by show _ ≤ 7301550; omega⟩ dL_law_173 (fun E9 w9 hx9 => (by obtain ⟨hx9, -⟩ := hx9; exfalso; omega)) (fun v2 w2 r2 => ?_)
      obtain ⟨-, rfl, ad2, M2, hw2, ha2, hc2⟩ := r2
      rw [hw2]
      show V D 11 A p l e room_1 s m args below meth c Q (k + 16) (n + 900) ([(g, arI cy 1 f)] ++ cl cy (sa 100) ad2 (nr + 1) M2) 176 [(9, vi y2), (8, vi kd), (7, vi (nr : Int)), (6, vi wt), (5, vi w), (4, vi v), (3, vi i), (0, .ref (sa 101)), (1, .ref (ad 0)), (2, .ref g)] [vi (nr : Int)]
      skip
      refine V.iload C dL_law_176 2 rfl ?_
      refine V.icmp_eq C 183 dL_law_178 (by decide) ⟨by omega, by omega⟩ ⟨by omega, by omega⟩ (fun h178 => ?_) (fun h178 => (by exact absurd rfl h178))
      refine V.goto C 532 dL_law_183 (by decide) ?_
      exact V.sub [6, 7, 8, 9] rfl (kk _ _ (by omega) (by omega) f ad2 (nr + 1) M2 h td (qA q nr (pN kd y2 y5 (1 + y6) y7 y4)) (mA rq nr) (mA nd nr) ha2 hc2 hla.add (hf.trans SF.add.symm))
  · skip
    refine V.iconst C dL_law_87 ?_
    refine V.iload C dL_law_88 3 rfl ?_
    refine V.bipush C dL_law_90 (by decide) ?_
    refine V.callS C (As := [vi w, vi 60]) (st := [vi 1]) (wr := []) kS_L_61 (c_low l D cy sa hfl _ w 60 hw ⟨by omega, by omega⟩) rfl rfl rfl (Nat.le_of_ble_eq_true rfl) ⟨by decide, by decide⟩ ⟨by show _ ≤ 600074; omega, by show _ ≤ 7301550; omega⟩ dL_law_92 (fun _ _ h => h.elim) (fun v34 w35 r36 => ?_)
    obtain ⟨rfl, hw35⟩ := r36
    rw [hw35]
    show V D 11 A p l e room_1 s m args below meth c Q k n ([(g, arI cy 1 f)] ++ cl cy (sa 100) ad nr M) 95 [(8, vi kd), (7, vi (nr : Int)), (6, vi wt), (5, vi w), (4, vi v), (3, vi i), (0, .ref (sa 101)), (1, .ref (ad 0)), (2, .ref g)] [vi (lowF w 60), vi 1]
    obtain ⟨y1, hy1⟩ : ∃ y9, y9 = lowF w 60 := ⟨_, rfl⟩
    rw [← hy1]
    have ry1 := lowF_rng (v := w) (n := 60) (by omega)
    rw [← hy1] at ry1
    skip
    refine V.iadd C dL_law_95 ?_
    refine V.goto C 124 dL_law_96 (by decide) ?_
    refine V.istore C (lc2 := [(9, vi (1 + y1)), (8, vi kd), (7, vi (nr : Int)), (6, vi wt), (5, vi w), (4, vi v), (3, vi i), (0, .ref (sa 101)), (1, .ref (ad 0)), (2, .ref g)]) dL_law_124 (by decide) rfl ?_
    refine V.aload_n C dL_law_126 8 rfl ?_
    refine V.iload C dL_law_127 1 rfl ?_
    refine V.iload C dL_law_129 0 rfl ?_
    refine V.iload C dL_law_131 5 rfl ?_
    refine V.bipush C dL_law_133 (by decide) ?_
    refine V.ishr C (z := shrF v 7) dL_law_135 (shrF_eq _ _) ?_
    refine V.iconst C dL_law_136 ?_
    refine V.callS C (As := [vi (shrF v 7), vi 3]) (st := [vi (1 + y1), vi kd, .ref (ad 0)]) (wr := []) kS_L_61 (c_low l D cy sa hfl _ (shrF v 7) 3 (shrF_in _ _) ⟨by omega, by omega⟩) rfl rfl rfl (Nat.le_of_ble_eq_true rfl) ⟨by decide, by decide⟩ ⟨by show _ ≤ 600074; omega, by show _ ≤ 7301550; omega⟩ dL_law_137 (fun _ _ h => h.elim) (fun v37 w38 r39 => ?_)
    obtain ⟨rfl, hw38⟩ := r39
    rw [hw38]
    show V D 11 A p l e room_1 s m args below meth c Q k n ([(g, arI cy 1 f)] ++ cl cy (sa 100) ad nr M) 140 [(9, vi (1 + y1)), (8, vi kd), (7, vi (nr : Int)), (6, vi wt), (5, vi w), (4, vi v), (3, vi i), (0, .ref (sa 101)), (1, .ref (ad 0)), (2, .ref g)] [vi (lowF (shrF v 7) 3), vi (1 + y1), vi kd, .ref (ad 0)]
    obtain ⟨y4, hy4⟩ : ∃ y9, y9 = lowF (shrF v 7) 3 := ⟨_, rfl⟩
    rw [← hy4]
    have ry4 := lowF_rng (v := shrF v 7) (n := 3) (by omega)
    rw [← hy4] at ry4
    skip
    refine V.iload C dL_law_140 4 rfl ?_
    refine V.bipush C dL_law_142 (by decide) ?_
    refine V.ishr C (z := shrF w 7) dL_law_144 (shrF_eq _ _) ?_
    refine V.sipush C dL_law_145 (by decide) ?_
    refine V.callS C (As := [vi (shrF w 7), vi 300]) (st := [vi y4, vi (1 + y1), vi kd, .ref (ad 0)]) (wr := []) kS_L_61 (c_low l D cy sa hfl _ (shrF w 7) 300 (shrF_in _ _) ⟨by omega, by omega⟩) rfl rfl rfl (Nat.le_of_ble_eq_true rfl) ⟨by decide, by decide⟩ ⟨by show _ ≤ 600074; omega, by show _ ≤ 7301550; omega⟩ dL_law_148 (fun _ _ h => h.elim) (fun v40 w41 r42 => ?_)
    obtain ⟨rfl, hw41⟩ := r42
    rw [hw41]
    show V D 11 A p l e room_1 s m args below meth c Q k n ([(g, arI cy 1 f)] ++ cl cy (sa 100) ad nr M) 151 [(9, vi (1 + y1)), (8, vi kd), (7, vi (nr : Int)), (6, vi wt), (5, vi w), (4, vi v), (3, vi i), (0, .ref (sa 101)), (1, .ref (ad 0)), (2, .ref g)] [vi (lowF (shrF w 7) 300), vi y4, vi (1 + y1), vi kd, .ref (ad 0)]
    obtain ⟨y5, hy5⟩ : ∃ y9, y9 = lowF (shrF w 7) 300 := ⟨_, rfl⟩
    rw [← hy5]
    have ry5 := lowF_rng (v := shrF w 7) (n := 300) (by omega)
    rw [← hy5] at ry5
    skip
    refine V.iconst C dL_law_151 ?_
    refine V.iload C dL_law_152 4 rfl ?_
    refine V.bipush C dL_law_154 (by decide) ?_
    refine V.ishr C (z := shrF w 16) dL_law_156 (shrF_eq _ _) ?_
    refine V.bipush C dL_law_157 (by decide) ?_
    refine V.callS C (As := [vi (shrF w 16), vi 9]) (st := [vi 1, vi y5, vi y4, vi (1 + y1), vi kd, .ref (ad 0)]) (wr := []) kS_L_61 (c_low l D cy sa hfl _ (shrF w 16) 9 (shrF_in _ _) ⟨by omega, by omega⟩) rfl rfl rfl (Nat.le_of_ble_eq_true rfl) ⟨by decide, by decide⟩ ⟨by show _ ≤ 600074; omega, by show _ ≤ 7301550; omega⟩ dL_law_159 (fun _ _ h => h.elim) (fun v43 w44 r45 => ?_)
    obtain ⟨rfl, hw44⟩ := r45
    rw [hw44]
    show V D 11 A p l e room_1 s m args below meth c Q k n ([(g, arI cy 1 f)] ++ cl cy (sa 100) ad nr M) 162 [(9, vi (1 + y1)), (8, vi kd), (7, vi (nr : Int)), (6, vi wt), (5, vi w), (4, vi v), (3, vi i), (0, .ref (sa 101)), (1, .ref (ad 0)), (2, .ref g)] [vi (lowF (shrF w 16) 9), vi 1, vi y5, vi y4, vi (1 + y1), vi kd, .ref (ad 0)]
    obtain ⟨y6, hy6⟩ : ∃ y9, y9 = lowF (shrF w 16) 9 := ⟨_, rfl⟩
    rw [← hy6]
    have ry6 := lowF_rng (v := shrF w 16) (n := 9) (by omega)
    rw [← hy6] at ry6
    skip
    refine V.iadd C dL_law_162 ?_
    refine V.iload C dL_law_163 5 rfl ?_
    refine V.bipush C dL_law_165 (by decide) ?_
    refine V.ishr C (z := shrF v 10) dL_law_167 (shrF_eq _ _) ?_
    refine V.bipush C dL_law_168 (by decide) ?_
    refine V.callS C (As := [vi (shrF v 10), vi 100]) (st := [vi (1 + y6), vi y5, vi y4, vi (1 + y1), vi kd, .ref (ad 0)]) (wr := []) kS_L_61 (c_low l D cy sa hfl _ (shrF v 10) 100 (shrF_in _ _) ⟨by omega, by omega⟩) rfl rfl rfl (Nat.le_of_ble_eq_true rfl) ⟨by decide, by decide⟩ ⟨by show _ ≤ 600074; omega, by show _ ≤ 7301550; omega⟩ dL_law_170 (fun _ _ h => h.elim) (fun v46 w47 r48 => ?_)
    obtain ⟨rfl, hw47⟩ := r48
    rw [hw47]
    show V D 11 A p l e room_1 s m args below meth c Q k n ([(g, arI cy 1 f)] ++ cl cy (sa 100) ad nr M) 173 [(9, vi (1 + y1)), (8, vi kd), (7, vi (nr : Int)), (6, vi wt), (5, vi w), (4, vi v), (3, vi i), (0, .ref (sa 101)), (1, .ref (ad 0)), (2, .ref g)] [vi (lowF (shrF v 10) 100), vi (1 + y6), vi y5, vi y4, vi (1 + y1), vi kd, .ref (ad 0)]
    obtain ⟨y7, hy7⟩ : ∃ y9, y9 = lowF (shrF v 10) 100 := ⟨_, rfl⟩
    rw [← hy7]
    have ry7 := lowF_rng (v := shrF v 10) (n := 100) (by omega)
    rw [← hy7] at ry7
    skip
    have kz3 : kAdd nr kd (1 + y1) y4 y5 (1 + y6) y7 = 0 := kAdd_0 hn7 ⟨by omega, by omega⟩ (fun _ => ⟨by omega, by omega⟩) (fun _ => ⟨by omega, by omega⟩) (fun _ => ⟨by omega, by omega⟩) ⟨by omega, by omega⟩ ⟨by omega, by omega⟩ ⟨by omega, by omega⟩ ⟨by omega, by omega⟩
    refine V.callVc C (wr := [(g, arI cy 1 f)]) (As := [vi kd, vi (1 + y1), vi y4, vi y5, vi (1 + y6), vi y7]) (st := []) (b := ad 0) kV_L_64 (c_addRule l D cy sa hfl ad nr M h td q rq nd hci kd ⟨by omega, by omega⟩ (1 + y1) ⟨by omega, by omega⟩ y4 ⟨by omega, by omega⟩ y5 ⟨by omega, by omega⟩ (1 + y6) ⟨by omega, by omega⟩ y7 ⟨by omega, by omega⟩) 0 cl_0 rfl rfl rfl (Nat.le_of_ble_eq_true rfl) ⟨by decide, by decide⟩ ⟨by show _ ≤ 600074; omega, by show _ ≤ 7301550; omega⟩ dL_law_173 (fun E9 w9 hx9 => (by obtain ⟨hx9, -⟩ := hx9; exfalso; omega)) (fun v3 w3 r3 => ?_)
    obtain ⟨-, rfl, ad3, M3, hw3, ha3, hc3⟩ := r3
    rw [hw3]
    show V D 11 A p l e room_1 s m args below meth c Q (k + 16) (n + 900) ([(g, arI cy 1 f)] ++ cl cy (sa 100) ad3 (nr + 1) M3) 176 [(9, vi (1 + y1)), (8, vi kd), (7, vi (nr : Int)), (6, vi wt), (5, vi w), (4, vi v), (3, vi i), (0, .ref (sa 101)), (1, .ref (ad 0)), (2, .ref g)] [vi (nr : Int)]
    skip
    refine V.iload C dL_law_176 2 rfl ?_
    refine V.icmp_eq C 183 dL_law_178 (by decide) ⟨by omega, by omega⟩ ⟨by omega, by omega⟩ (fun h178 => ?_) (fun h178 => (by exact absurd rfl h178))
    refine V.goto C 532 dL_law_183 (by decide) ?_
    exact V.sub [6, 7, 8, 9] rfl (kk _ _ (by omega) (by omega) f ad3 (nr + 1) M3 h td (qA q nr (pN kd (1 + y1) y5 (1 + y6) y7 y4)) (mA rq nr) (mA nd nr) ha3 hc3 hla.add (hf.trans SF.add.symm))
set_option maxHeartbeats 4000000 in
set_option maxRecDepth 100000 in
theorem law_c192 {p : Program} {l : Launch} {e : Env} {s : State} {m : MethodId} {args : Array Value} {below : List Frame} {meth : Method} {c : Code} {D : va_G} {cy : Nat → ClassId} {sa : Nat → Addr} {A : Nat → Prop} {Q : State → Prop} (hfl : l.stackTraces = false) (C : Cx D cy sa RL cL_law 11 (some .boolean) A p l s m args meth c) {k n : Nat} (hk : k + 1300 ≤ 600074) (hn9 : n + 7800 ≤ 7301550) (g : Nat) (f : Int → Int) (ad : Nat → Nat) (nr : Nat) (M : Nat → Int → Int) (h : Int → Bool) (td : Int) (q : Nat → Nat → Int) (rq nd : Nat → Nat) (hci : CI h td nr q rq nd M) (hla : LA nr rq nd) (hf : f 0 = SF q nr) (i v w wt : Int) (hv : inR v) (hw : inR w) (kk : ∀ k2 n2 : Nat, k2 ≤ k + 1300 → n2 ≤ n + 7800 → LV D cy sa A p l e s m args below meth c Q (ad 0) g k2 n2 532 [(3, vi i)] [])  : V D 11 A p l e room_1 s m args below meth c Q k n ([(g, arI cy 1 f)] ++ cl cy (sa 100) ad nr M) 192 [(7, vi (nr : Int)), (6, vi wt), (5, vi w), (4, vi v), (3, vi i), (0, .ref (sa 101)), (1, .ref (ad 0)), (2, .ref g)] [] := by
  obtain ⟨-, ⟨-, td0, td1⟩, hn8, -⟩ := id hci
  have join254 : ∀ (day : Int) (kz : Nat) (nz : Nat) (M1 : Nat → Int → Int), (0 ≤ day ∧ day < 720) → (kz ≤ k + 100 ∧ nz ≤ n + 600) → (CI h td nr q rq nd M1) → V D 11 A p l e room_1 s m args below meth c Q kz nz ([(g, arI cy 1 f)] ++ cl cy (sa 100) ad nr M1) 254 [(7, vi (nr : Int)), (6, vi wt), (5, vi w), (4, vi v), (3, vi i), (0, .ref (sa 101)), (1, .ref (ad 0)), (2, .ref g)] [vi day] := by
    intro day kz nz M1 hday hkz hc1
    refine V.istore C (lc2 := [(8, vi day), (7, vi (nr : Int)), (6, vi wt), (5, vi w), (4, vi v), (3, vi i), (0, .ref (sa 101)), (1, .ref (ad 0)), (2, .ref g)]) dL_law_254 (by decide) rfl ?_
    refine V.aload_n C dL_law_256 7 rfl ?_
    refine V.iload C dL_law_257 0 rfl ?_
    have kz1 : kDay day = 0 := kDay_0 (by omega) (by omega)
    refine V.callVc C (wr := [(g, arI cy 1 f)]) (As := [vi day]) (st := []) (b := ad 0) kV_L_18 (c_isWorking l D cy sa hfl ad nr M1 h td q rq nd hc1 day ⟨by omega, by omega⟩) 0 cl_0 rfl rfl rfl (Nat.le_of_ble_eq_true rfl) ⟨by decide, by decide⟩ ⟨by show _ ≤ 600074; omega, by show _ ≤ 7301550; omega⟩ dL_law_259 (fun E9 w9 hx9 => (by obtain ⟨hx9, -⟩ := hx9; exfalso; omega)) (fun v1 w1 r1 => ?_)
    obtain ⟨-, rfl, M1, hw1, hc1⟩ := r1
    rw [hw1]
    show V D 11 A p l e room_1 s m args below meth c Q (kz + 6) (nz + 36) ([(g, arI cy 1 f)] ++ cl cy (sa 100) ad nr M1) 262 [(8, vi day), (7, vi (nr : Int)), (6, vi wt), (5, vi w), (4, vi v), (3, vi i), (0, .ref (sa 101)), (1, .ref (ad 0)), (2, .ref g)] [vi (bI (wk h day))]
    refine V.istore C (lc2 := [(9, vi (bI (wk h day))), (8, vi day), (7, vi (nr : Int)), (6, vi wt), (5, vi w), (4, vi v), (3, vi i), (0, .ref (sa 101)), (1, .ref (ad 0)), (2, .ref g)]) dL_law_262 (by decide) rfl ?_
    refine V.aload_n C dL_law_264 8 rfl ?_
    refine V.iload C dL_law_265 1 rfl ?_
    have kz2 : kDay day = 0 := kDay_0 (by omega) (by omega)
    refine V.callVc C (wr := [(g, arI cy 1 f)]) (As := [vi day]) (st := []) (b := ad 0) kV_L_68 (c_holiday l D cy sa hfl ad nr M1 h td q rq nd hc1 day ⟨by omega, by omega⟩) 0 cl_0 rfl rfl rfl (Nat.le_of_ble_eq_true rfl) ⟨by decide, by decide⟩ ⟨by show _ ≤ 600074; omega, by show _ ≤ 7301550; omega⟩ dL_law_267 (fun E9 w9 hx9 => (by obtain ⟨hx9, -⟩ := hx9; exfalso; omega)) (fun v2 w2 r2 => ?_)
    obtain ⟨-, rfl, M2, hw2, hc2⟩ := r2
    rw [hw2]
    show V D 11 A p l e room_1 s m args below meth c Q (kz + 6 + 6) (nz + 36 + 36) ([(g, arI cy 1 f)] ++ cl cy (sa 100) ad nr M2) 270 [(9, vi (bI (wk h day))), (8, vi day), (7, vi (nr : Int)), (6, vi wt), (5, vi w), (4, vi v), (3, vi i), (0, .ref (sa 101)), (1, .ref (ad 0)), (2, .ref g)] [vi (bI (!h day))]
    refine V.istore C (lc2 := [(10, vi (bI (!h day))), (9, vi (bI (wk h day))), (8, vi day), (7, vi (nr : Int)), (6, vi wt), (5, vi w), (4, vi v), (3, vi i), (0, .ref (sa 101)), (1, .ref (ad 0)), (2, .ref g)]) dL_law_270 (by decide) rfl ?_
    refine V.iload C dL_law_272 0 rfl ?_
    refine V.if_eqB C 286 dL_law_274 (by decide) (fun h274 => ?_) (fun h274 => ?_)
    · skip
      refine V.iload C dL_law_286 1 rfl ?_
      refine V.if_eqB C 298 dL_law_288 (by decide) (fun h288 => ?_) (fun h288 => ?_)
      · skip
        refine V.goto C 532 dL_law_298 (by decide) ?_
        exact V.sub [7, 8, 9, 10] rfl (kk _ _ (by omega) (by omega) f ad nr M2 (flip h day) td q rq nd rfl hc2 hla hf)
      · skip
        refine V.iload C dL_law_291 0 rfl ?_
        refine V.if_neB C 298 dL_law_293 (by decide) (fun h293 => ?_) (fun h293 => (by have e9 := wk_f2 (h := h) (d := day) (by simpa using h274); rw [← e9] at h288; cases h288))
        refine V.goto C 532 dL_law_298 (by decide) ?_
        exact V.sub [7, 8, 9, 10] rfl (kk _ _ (by omega) (by omega) f ad nr M2 (flip h day) td q rq nd rfl hc2 hla hf)
    · skip
      refine V.aload_n C dL_law_277 9 rfl ?_
      refine V.iload C dL_law_278 2 rfl ?_
      have kz3 : kDay day = 0 := kDay_0 (by omega) (by omega)
      refine V.callVc C (wr := [(g, arI cy 1 f)]) (As := [vi day]) (st := []) (b := ad 0) kV_L_18 (c_isWorking l D cy sa hfl ad nr M2 (flip h day) td q rq nd hc2 day ⟨by omega, by omega⟩) 0 cl_0 rfl rfl rfl (Nat.le_of_ble_eq_true rfl) ⟨by decide, by decide⟩ ⟨by show _ ≤ 600074; omega, by show _ ≤ 7301550; omega⟩ dL_law_280 (fun E9 w9 hx9 => (by obtain ⟨hx9, -⟩ := hx9; exfalso; omega)) (fun v3 w3 r3 => ?_)
      obtain ⟨-, rfl, M3, hw3, hc3⟩ := r3
      rw [hw3]
      show V D 11 A p l e room_1 s m args below meth c Q (kz + 6 + 6 + 6) (nz + 36 + 36 + 36) ([(g, arI cy 1 f)] ++ cl cy (sa 100) ad nr M3) 283 [(10, vi (bI (!h day))), (9, vi (bI (wk h day))), (8, vi day), (7, vi (nr : Int)), (6, vi wt), (5, vi w), (4, vi v), (3, vi i), (0, .ref (sa 101)), (1, .ref (ad 0)), (2, .ref g)] [vi (bI (wk (flip h day) day))]
      rw [show wk (flip h day) day = false from (wk_f2 (h := flip h day) (d := day) (by simp only [flip, if_true]; exact h274)).symm]
      refine V.if_neB C 296 dL_law_283 (by decide) (fun h283 => (by cases h283)) (fun h283 => ?_)
      refine V.iload C dL_law_286 1 rfl ?_
      refine V.if_eqB C 298 dL_law_288 (by decide) (fun h288 => ?_) (fun h288 => ?_)
      · skip
        refine V.goto C 532 dL_law_298 (by decide) ?_
        exact V.sub [7, 8, 9, 10] rfl (kk _ _ (by omega) (by omega) f ad nr M3 (flip h day) td q rq nd rfl hc3 hla hf)
      · skip
        refine V.iload C dL_law_291 0 rfl ?_
        refine V.if_neB C 298 dL_law_293 (by decide) (fun h293 => ?_) (fun h293 => (by rw [h274] at h293; cases h293))
        refine V.goto C 532 dL_law_298 (by decide) ?_
        exact V.sub [7, 8, 9, 10] rfl (kk _ _ (by omega) (by omega) f ad nr M3 (flip h day) td q rq nd rfl hc3 hla hf)
  refine V.iload C dL_law_192 2 rfl ?_
  refine V.iconst C dL_law_194 ?_
  refine V.callS C (As := [vi w, vi 3]) (st := []) (wr := []) kS_L_61 (c_low l D cy sa hfl _ w 3 hw ⟨by omega, by omega⟩) rfl rfl rfl (Nat.le_of_ble_eq_true rfl) ⟨by decide, by decide⟩ ⟨by show _ ≤ 600074; omega, by show _ ≤ 7301550; omega⟩ dL_law_195 (fun _ _ h => h.elim) (fun v1 w2 r3 => ?_)
  obtain ⟨rfl, hw2⟩ := r3
  rw [hw2]
  show V D 11 A p l e room_1 s m args below meth c Q k n ([(g, arI cy 1 f)] ++ cl cy (sa 100) ad nr M) 198 [(7, vi (nr : Int)), (6, vi wt), (5, vi w), (4, vi v), (3, vi i), (0, .ref (sa 101)), (1, .ref (ad 0)), (2, .ref g)] [vi (lowF w 3)]
  obtain ⟨y0, hy0⟩ : ∃ y9, y9 = lowF w 3 := ⟨_, rfl⟩
  rw [← hy0]
  have ry0 := lowF_rng (v := w) (n := 3) (by omega)
  rw [← hy0] at ry0
  skip
  refine V.if_ne C 214 dL_law_198 (by decide) ⟨by omega, by omega⟩ (fun h198 => ?_) (fun h198 => ?_)
  · skip
    refine V.aload_n C dL_law_214 6 rfl ?_
    refine V.callVc C (wr := [(g, arI cy 1 f)]) (As := []) (st := []) (b := ad 0) kV_L_40 (c_today l D cy sa hfl ad nr M h td q rq nd hci) 0 cl_0 rfl rfl rfl (Nat.le_of_ble_eq_true rfl) ⟨by decide, by decide⟩ ⟨by show _ ≤ 600074; omega, by show _ ≤ 7301550; omega⟩ dL_law_215 (fun _ _ h => h.elim) (fun v4 w4 r4 => ?_)
    obtain ⟨rfl, M4, hw4, hc4⟩ := r4
    rw [hw4]
    show V D 11 A p l e room_1 s m args below meth c Q (k + 6) (n + 36) ([(g, arI cy 1 f)] ++ cl cy (sa 100) ad nr M4) 218 [(7, vi (nr : Int)), (6, vi wt), (5, vi w), (4, vi v), (3, vi i), (0, .ref (sa 101)), (1, .ref (ad 0)), (2, .ref g)] [vi td]
    refine V.iload C dL_law_218 2 rfl ?_
    refine V.iconst C dL_law_220 ?_
    refine V.ishr C (z := shrF w 2) dL_law_221 (shrF_eq _ _) ?_
    refine V.bipush C dL_law_222 (by decide) ?_
    refine V.callS C (As := [vi (shrF w 2), vi 60]) (st := [vi td]) (wr := []) kS_L_61 (c_low l D cy sa hfl _ (shrF w 2) 60 (shrF_in _ _) ⟨by omega, by omega⟩) rfl rfl rfl (Nat.le_of_ble_eq_true rfl) ⟨by decide, by decide⟩ ⟨by show _ ≤ 600074; omega, by show _ ≤ 7301550; omega⟩ dL_law_224 (fun _ _ h => h.elim) (fun v4 w5 r6 => ?_)
    obtain ⟨rfl, hw5⟩ := r6
    rw [hw5]
    show V D 11 A p l e room_1 s m args below meth c Q (k + 6) (n + 36) ([(g, arI cy 1 f)] ++ cl cy (sa 100) ad nr M4) 227 [(7, vi (nr : Int)), (6, vi wt), (5, vi w), (4, vi v), (3, vi i), (0, .ref (sa 101)), (1, .ref (ad 0)), (2, .ref g)] [vi (lowF (shrF w 2) 60), vi td]
    obtain ⟨y2, hy2⟩ : ∃ y9, y9 = lowF (shrF w 2) 60 := ⟨_, rfl⟩
    rw [← hy2]
    have ry2 := lowF_rng (v := shrF w 2) (n := 60) (by omega)
    rw [← hy2] at ry2
    skip
    refine V.iadd C dL_law_227 ?_
    refine V.sipush C dL_law_228 (by decide) ?_
    refine V.icmp_ge C 251 dL_law_231 (by decide) ⟨by omega, by omega⟩ ⟨by decide, by decide⟩ (fun h231 => ?_) (fun h231 => ?_)
    · skip
      refine V.sipush C dL_law_251 (by decide) ?_
      exact join254 719 (k + 6) (n + 36) M4 (by omega) (by omega) hc4
    · skip
      refine V.aload_n C dL_law_234 6 rfl ?_
      refine V.callVc C (wr := [(g, arI cy 1 f)]) (As := []) (st := []) (b := ad 0) kV_L_40 (c_today l D cy sa hfl ad nr M4 h td q rq nd hc4) 0 cl_0 rfl rfl rfl (Nat.le_of_ble_eq_true rfl) ⟨by decide, by decide⟩ ⟨by show _ ≤ 600074; omega, by show _ ≤ 7301550; omega⟩ dL_law_235 (fun _ _ h => h.elim) (fun v5 w5 r5 => ?_)
      obtain ⟨rfl, M5, hw5, hc5⟩ := r5
      rw [hw5]
      show V D 11 A p l e room_1 s m args below meth c Q (k + 6 + 6) (n + 36 + 36) ([(g, arI cy 1 f)] ++ cl cy (sa 100) ad nr M5) 238 [(7, vi (nr : Int)), (6, vi wt), (5, vi w), (4, vi v), (3, vi i), (0, .ref (sa 101)), (1, .ref (ad 0)), (2, .ref g)] [vi td]
      refine V.iload C dL_law_238 2 rfl ?_
      refine V.iconst C dL_law_240 ?_
      refine V.ishr C (z := shrF w 2) dL_law_241 (shrF_eq _ _) ?_
      refine V.bipush C dL_law_242 (by decide) ?_
      refine V.callS C (As := [vi (shrF w 2), vi 60]) (st := [vi td]) (wr := []) kS_L_61 (c_low l D cy sa hfl _ (shrF w 2) 60 (shrF_in _ _) ⟨by omega, by omega⟩) rfl rfl rfl (Nat.le_of_ble_eq_true rfl) ⟨by decide, by decide⟩ ⟨by show _ ≤ 600074; omega, by show _ ≤ 7301550; omega⟩ dL_law_244 (fun _ _ h => h.elim) (fun v7 w8 r9 => ?_)
      obtain ⟨rfl, hw8⟩ := r9
      rw [hw8]
      show V D 11 A p l e room_1 s m args below meth c Q (k + 6 + 6) (n + 36 + 36) ([(g, arI cy 1 f)] ++ cl cy (sa 100) ad nr M5) 247 [(7, vi (nr : Int)), (6, vi wt), (5, vi w), (4, vi v), (3, vi i), (0, .ref (sa 101)), (1, .ref (ad 0)), (2, .ref g)] [vi (lowF (shrF w 2) 60), vi td]
      obtain ⟨y3, hy3⟩ : ∃ y9, y9 = lowF (shrF w 2) 60 := ⟨_, rfl⟩
      rw [← hy3]
      have ry3 := lowF_rng (v := shrF w 2) (n := 60) (by omega)
      rw [← hy3] at ry3
      have e23 : y3 = y2 := hy3.trans hy2.symm
      refine V.iadd C dL_law_247 ?_
      refine V.goto C 254 dL_law_248 (by decide) ?_
      exact join254 (td + y3) (k + 6 + 6) (n + 36 + 36) M5 (by omega) (by omega) hc5
  · skip
    refine V.iload C dL_law_201 2 rfl ?_
    refine V.iconst C dL_law_203 ?_
    refine V.ishr C (z := shrF w 2) dL_law_204 (shrF_eq _ _) ?_
    refine V.sipush C dL_law_205 (by decide) ?_
    refine V.callS C (As := [vi (shrF w 2), vi 720]) (st := []) (wr := []) kS_L_61 (c_low l D cy sa hfl _ (shrF w 2) 720 (shrF_in _ _) ⟨by omega, by omega⟩) rfl rfl rfl (Nat.le_of_ble_eq_true rfl) ⟨by decide, by decide⟩ ⟨by show _ ≤ 600074; omega, by show _ ≤ 7301550; omega⟩ dL_law_208 (fun _ _ h => h.elim) (fun v10 w11 r12 => ?_)
    obtain ⟨rfl, hw11⟩ := r12
    rw [hw11]
    show V D 11 A p l e room_1 s m args below meth c Q k n ([(g, arI cy 1 f)] ++ cl cy (sa 100) ad nr M) 211 [(7, vi (nr : Int)), (6, vi wt), (5, vi w), (4, vi v), (3, vi i), (0, .ref (sa 101)), (1, .ref (ad 0)), (2, .ref g)] [vi (lowF (shrF w 2) 720)]
    obtain ⟨y1, hy1⟩ : ∃ y9, y9 = lowF (shrF w 2) 720 := ⟨_, rfl⟩
    rw [← hy1]
    have ry1 := lowF_rng (v := shrF w 2) (n := 720) (by omega)
    rw [← hy1] at ry1
    skip
    refine V.goto C 254 dL_law_211 (by decide) ?_
    exact join254 y1 k n M (by omega) (by omega) hci
set_option maxHeartbeats 4000000 in
set_option maxRecDepth 100000 in
theorem law_c307 {p : Program} {l : Launch} {e : Env} {s : State} {m : MethodId} {args : Array Value} {below : List Frame} {meth : Method} {c : Code} {D : va_G} {cy : Nat → ClassId} {sa : Nat → Addr} {A : Nat → Prop} {Q : State → Prop} (hfl : l.stackTraces = false) (C : Cx D cy sa RL cL_law 11 (some .boolean) A p l s m args meth c) {k n : Nat} (hk : k + 1300 ≤ 600074) (hn9 : n + 7800 ≤ 7301550) (g : Nat) (f : Int → Int) (ad : Nat → Nat) (nr : Nat) (M : Nat → Int → Int) (h : Int → Bool) (td : Int) (q : Nat → Nat → Int) (rq nd : Nat → Nat) (hci : CI h td nr q rq nd M) (hla : LA nr rq nd) (hf : f 0 = SF q nr) (i v w wt : Int) (hv : inR v) (hw : inR w) (kk : ∀ k2 n2 : Nat, k2 ≤ k + 1300 → n2 ≤ n + 7800 → LV D cy sa A p l e s m args below meth c Q (ad 0) g k2 n2 532 [(3, vi i)] []) (hn1 : 1 ≤ nr) : V D 11 A p l e room_1 s m args below meth c Q k n ([(g, arI cy 1 f)] ++ cl cy (sa 100) ad nr M) 307 [(7, vi (nr : Int)), (6, vi wt), (5, vi w), (4, vi v), (3, vi i), (0, .ref (sa 101)), (1, .ref (ad 0)), (2, .ref g)] [] := by
  obtain ⟨-, ⟨-, td0, td1⟩, hn8, -⟩ := id hci
  refine V.iload C dL_law_307 2 rfl ?_
  refine V.iload C dL_law_309 0 rfl ?_
  refine V.callS C (As := [vi w, vi (nr : Int)]) (st := []) (wr := []) kS_L_61 (c_low l D cy sa hfl _ w (nr : Int) hw ⟨by omega, by omega⟩) rfl rfl rfl (Nat.le_of_ble_eq_true rfl) ⟨by decide, by decide⟩ ⟨by show _ ≤ 600074; omega, by show _ ≤ 7301550; omega⟩ dL_law_311 (fun _ _ h => h.elim) (fun v1 w2 r3 => ?_)
  obtain ⟨rfl, hw2⟩ := r3
  rw [hw2]
  show V D 11 A p l e room_1 s m args below meth c Q k n ([(g, arI cy 1 f)] ++ cl cy (sa 100) ad nr M) 314 [(7, vi (nr : Int)), (6, vi wt), (5, vi w), (4, vi v), (3, vi i), (0, .ref (sa 101)), (1, .ref (ad 0)), (2, .ref g)] [vi (lowF w (nr : Int))]
  obtain ⟨one, hone⟩ : ∃ y9, y9 = lowF w (nr : Int) := ⟨_, rfl⟩
  rw [← hone]
  have rone := lowF_rng (v := w) (n := (nr : Int)) (by omega)
  rw [← hone] at rone
  skip
  refine V.istore C (lc2 := [(8, vi one), (7, vi (nr : Int)), (6, vi wt), (5, vi w), (4, vi v), (3, vi i), (0, .ref (sa 101)), (1, .ref (ad 0)), (2, .ref g)]) dL_law_314 (by decide) rfl ?_
  refine V.iload C dL_law_316 3 rfl ?_
  refine V.iconst C dL_law_318 ?_
  refine V.ishr C (z := shrF w 4) dL_law_319 (shrF_eq _ _) ?_
  refine V.iload C dL_law_320 1 rfl ?_
  refine V.callS C (As := [vi (shrF w 4), vi (nr : Int)]) (st := []) (wr := []) kS_L_61 (c_low l D cy sa hfl _ (shrF w 4) (nr : Int) (shrF_in _ _) ⟨by omega, by omega⟩) rfl rfl rfl (Nat.le_of_ble_eq_true rfl) ⟨by decide, by decide⟩ ⟨by show _ ≤ 600074; omega, by show _ ≤ 7301550; omega⟩ dL_law_322 (fun _ _ h => h.elim) (fun v4 w5 r6 => ?_)
  obtain ⟨rfl, hw5⟩ := r6
  rw [hw5]
  show V D 11 A p l e room_1 s m args below meth c Q k n ([(g, arI cy 1 f)] ++ cl cy (sa 100) ad nr M) 325 [(8, vi one), (7, vi (nr : Int)), (6, vi wt), (5, vi w), (4, vi v), (3, vi i), (0, .ref (sa 101)), (1, .ref (ad 0)), (2, .ref g)] [vi (lowF (shrF w 4) (nr : Int))]
  obtain ⟨oth, hoth⟩ : ∃ y9, y9 = lowF (shrF w 4) (nr : Int) := ⟨_, rfl⟩
  rw [← hoth]
  have roth := lowF_rng (v := shrF w 4) (n := (nr : Int)) (by omega)
  rw [← hoth] at roth
  skip
  refine V.istore C (lc2 := [(9, vi oth), (8, vi one), (7, vi (nr : Int)), (6, vi wt), (5, vi w), (4, vi v), (3, vi i), (0, .ref (sa 101)), (1, .ref (ad 0)), (2, .ref g)]) dL_law_325 (by decide) rfl ?_
  refine V.iload C dL_law_327 0 rfl ?_
  refine V.iload C dL_law_329 1 rfl ?_
  refine V.icmp_ge C 356 dL_law_331 (by decide) ⟨by omega, by omega⟩ ⟨by omega, by omega⟩ (fun h331 => ?_) (fun h331 => ?_)
  · skip
    refine V.goto C 532 dL_law_356 (by decide) ?_
    exact V.sub [6, 7, 8, 9] rfl (kk _ _ (by omega) (by omega) f ad nr M h td q rq nd rfl hci hla hf)
  · skip
    refine V.aload_n C dL_law_334 8 rfl ?_
    refine V.iload C dL_law_335 1 rfl ?_
    refine V.iload C dL_law_337 0 rfl ?_
    have kz1 : kReq nr nd one oth = 0 := hla.kreq (by omega) (by omega) (by omega)
    refine V.callVc C (wr := [(g, arI cy 1 f)]) (As := [vi one, vi oth]) (st := []) (b := ad 0) kV_L_71 (c_require l D cy sa hfl ad nr M h td q rq nd hci one ⟨by omega, by omega⟩ oth ⟨by omega, by omega⟩) 0 cl_0 rfl rfl rfl (Nat.le_of_ble_eq_true rfl) ⟨by decide, by decide⟩ ⟨by show _ ≤ 600074; omega, by show _ ≤ 7301550; omega⟩ dL_law_339 (fun E9 w9 hx9 => (by obtain ⟨hx9, -⟩ := hx9; exfalso; omega)) (fun v1 w1 r1 => ?_)
    obtain ⟨-, rfl, M1, hw1, hc1⟩ := r1
    rw [hw1]
    show V D 11 A p l e room_1 s m args below meth c Q (k + 6) (n + 36) ([(g, arI cy 1 f)] ++ cl cy (sa 100) ad nr M1) 342 [(9, vi oth), (8, vi one), (7, vi (nr : Int)), (6, vi wt), (5, vi w), (4, vi v), (3, vi i), (0, .ref (sa 101)), (1, .ref (ad 0)), (2, .ref g)] [vi (bI (!(rq one.toNat).testBit oth.toNat))]
    have hla2 := hla.req9 (x := one) (z := oth) (by omega) (by omega) (by omega)
    refine V.pop C dL_law_342 rfl ?_
    refine V.aload_n C dL_law_343 8 rfl ?_
    refine V.iload C dL_law_344 1 rfl ?_
    refine V.iload C dL_law_346 0 rfl ?_
    have kz2 : kReq nr (ndN rq nd one.toNat oth.toNat) one oth = 0 := hla2.kreq (by omega) (by omega) (by omega)
    refine V.callVc C (wr := [(g, arI cy 1 f)]) (As := [vi one, vi oth]) (st := []) (b := ad 0) kV_L_71 (c_require l D cy sa hfl ad nr M1 h td q (rqN rq one.toNat oth.toNat) (ndN rq nd one.toNat oth.toNat) hc1 one ⟨by omega, by omega⟩ oth ⟨by omega, by omega⟩) 0 cl_0 rfl rfl rfl (Nat.le_of_ble_eq_true rfl) ⟨by decide, by decide⟩ ⟨by show _ ≤ 600074; omega, by show _ ≤ 7301550; omega⟩ dL_law_348 (fun E9 w9 hx9 => (by obtain ⟨hx9, -⟩ := hx9; exfalso; omega)) (fun v2 w2 r2 => ?_)
    obtain ⟨-, rfl, M2, hw2, hc2⟩ := r2
    rw [hw2]
    show V D 11 A p l e room_1 s m args below meth c Q (k + 6 + 6) (n + 36 + 36) ([(g, arI cy 1 f)] ++ cl cy (sa 100) ad nr M2) 351 [(9, vi oth), (8, vi one), (7, vi (nr : Int)), (6, vi wt), (5, vi w), (4, vi v), (3, vi i), (0, .ref (sa 101)), (1, .ref (ad 0)), (2, .ref g)] [vi (bI (!((rqN rq one.toNat oth.toNat) one.toNat).testBit oth.toNat))]
    rw [show (!((rqN rq one.toNat oth.toNat) one.toNat).testBit oth.toNat) = false from (by rw [rqN_has]; rfl)]
    have hla3 := hla2.req9 (x := one) (z := oth) (by omega) (by omega) (by omega)
    refine V.if_eqB C 356 dL_law_351 (by decide) (fun h351 => ?_) (fun h351 => (by cases h351))
    refine V.goto C 532 dL_law_356 (by decide) ?_
    exact V.sub [6, 7, 8, 9] rfl (kk _ _ (by omega) (by omega) f ad nr M2 h td q (rqN (rqN rq one.toNat oth.toNat) one.toNat oth.toNat) (ndN (rqN rq one.toNat oth.toNat) (ndN rq nd one.toNat oth.toNat) one.toNat oth.toNat) rfl hc2 hla3 hf)
set_option maxHeartbeats 4000000 in
set_option maxRecDepth 100000 in
theorem law_c365 {p : Program} {l : Launch} {e : Env} {s : State} {m : MethodId} {args : Array Value} {below : List Frame} {meth : Method} {c : Code} {D : va_G} {cy : Nat → ClassId} {sa : Nat → Addr} {A : Nat → Prop} {Q : State → Prop} (hfl : l.stackTraces = false) (C : Cx D cy sa RL cL_law 11 (some .boolean) A p l s m args meth c) {k n : Nat} (hk : k + 1300 ≤ 600074) (hn9 : n + 7800 ≤ 7301550) (g : Nat) (f : Int → Int) (ad : Nat → Nat) (nr : Nat) (M : Nat → Int → Int) (h : Int → Bool) (td : Int) (q : Nat → Nat → Int) (rq nd : Nat → Nat) (hci : CI h td nr q rq nd M) (hla : LA nr rq nd) (hf : f 0 = SF q nr) (i v w wt : Int) (hv : inR v) (hw : inR w) (kk : ∀ k2 n2 : Nat, k2 ≤ k + 1300 → n2 ≤ n + 7800 → LV D cy sa A p l e s m args below meth c Q (ad 0) g k2 n2 532 [(3, vi i)] [])  : V D 11 A p l e room_1 s m args below meth c Q k n ([(g, arI cy 1 f)] ++ cl cy (sa 100) ad nr M) 365 [(7, vi (nr : Int)), (6, vi wt), (5, vi w), (4, vi v), (3, vi i), (0, .ref (sa 101)), (1, .ref (ad 0)), (2, .ref g)] [] := by
  obtain ⟨-, ⟨-, td0, td1⟩, hn8, -⟩ := id hci
  refine V.iconst C dL_law_365 ?_
  refine V.iload C dL_law_366 2 rfl ?_
  refine V.bipush C dL_law_368 (by decide) ?_
  refine V.callS C (As := [vi w, vi 20]) (st := [vi 1]) (wr := []) kS_L_61 (c_low l D cy sa hfl _ w 20 hw ⟨by omega, by omega⟩) rfl rfl rfl (Nat.le_of_ble_eq_true rfl) ⟨by decide, by decide⟩ ⟨by show _ ≤ 600074; omega, by show _ ≤ 7301550; omega⟩ dL_law_370 (fun _ _ h => h.elim) (fun v1 w2 r3 => ?_)
  obtain ⟨rfl, hw2⟩ := r3
  rw [hw2]
  show V D 11 A p l e room_1 s m args below meth c Q k n ([(g, arI cy 1 f)] ++ cl cy (sa 100) ad nr M) 373 [(7, vi (nr : Int)), (6, vi wt), (5, vi w), (4, vi v), (3, vi i), (0, .ref (sa 101)), (1, .ref (ad 0)), (2, .ref g)] [vi (lowF w 20), vi 1]
  obtain ⟨y0, hy0⟩ : ∃ y9, y9 = lowF w 20 := ⟨_, rfl⟩
  rw [← hy0]
  have ry0 := lowF_rng (v := w) (n := 20) (by omega)
  rw [← hy0] at ry0
  skip
  refine V.iadd C dL_law_373 ?_
  refine V.istore C (lc2 := [(8, vi (1 + y0)), (7, vi (nr : Int)), (6, vi wt), (5, vi w), (4, vi v), (3, vi i), (0, .ref (sa 101)), (1, .ref (ad 0)), (2, .ref g)]) dL_law_374 (by decide) rfl ?_
  refine V.aload_n C dL_law_376 7 rfl ?_
  refine V.callVc C (wr := [(g, arI cy 1 f)]) (As := []) (st := []) (b := ad 0) kV_L_40 (c_today l D cy sa hfl ad nr M h td q rq nd hci) 0 cl_0 rfl rfl rfl (Nat.le_of_ble_eq_true rfl) ⟨by decide, by decide⟩ ⟨by show _ ≤ 600074; omega, by show _ ≤ 7301550; omega⟩ dL_law_377 (fun _ _ h => h.elim) (fun v1 w1 r1 => ?_)
  obtain ⟨rfl, M1, hw1, hc1⟩ := r1
  rw [hw1]
  show V D 11 A p l e room_1 s m args below meth c Q (k + 6) (n + 36) ([(g, arI cy 1 f)] ++ cl cy (sa 100) ad nr M1) 380 [(8, vi (1 + y0)), (7, vi (nr : Int)), (6, vi wt), (5, vi w), (4, vi v), (3, vi i), (0, .ref (sa 101)), (1, .ref (ad 0)), (2, .ref g)] [vi td]
  refine V.iload C dL_law_380 0 rfl ?_
  refine V.iadd C dL_law_382 ?_
  refine V.sipush C dL_law_383 (by decide) ?_
  refine V.icmp_ge C 404 dL_law_386 (by decide) ⟨by omega, by omega⟩ ⟨by decide, by decide⟩ (fun h386 => ?_) (fun h386 => ?_)
  · skip
    refine V.goto C 532 dL_law_404 (by decide) ?_
    exact V.sub [5, 6, 7, 8] rfl (kk _ _ (by omega) (by omega) f ad nr M1 h td q rq nd rfl hc1 hla hf)
  · skip
    refine V.aload_n C dL_law_389 7 rfl ?_
    refine V.iload C dL_law_390 0 rfl ?_
    have kz2 : kPass td (1 + y0) = 0 := kPass_0 ⟨by omega, by omega⟩ (by omega)
    refine V.callVc C (wr := [(g, arI cy 1 f)]) (As := [vi (1 + y0)]) (st := []) (b := ad 0) kV_L_74 (c_pass l D cy sa hfl ad nr M1 h td q rq nd hc1 (1 + y0) ⟨by omega, by omega⟩) 0 cl_0 rfl rfl rfl (Nat.le_of_ble_eq_true rfl) ⟨by decide, by decide⟩ ⟨by show _ ≤ 600074; omega, by show _ ≤ 7301550; omega⟩ dL_law_392 (fun E9 w9 hx9 => (by obtain ⟨hx9, -⟩ := hx9; exfalso; omega)) (fun v2 w2 r2 => ?_)
    obtain ⟨-, rfl, M2, hw2, hc2⟩ := r2
    rw [hw2]
    show V D 11 A p l e room_1 s m args below meth c Q (k + 6 + 6) (n + 36 + 36) ([(g, arI cy 1 f)] ++ cl cy (sa 100) ad nr M2) 395 [(8, vi (1 + y0)), (7, vi (nr : Int)), (6, vi wt), (5, vi w), (4, vi v), (3, vi i), (0, .ref (sa 101)), (1, .ref (ad 0)), (2, .ref g)] [vi (td + (1 + y0))]
    refine V.aload_n C dL_law_395 7 rfl ?_
    refine V.callVc C (wr := [(g, arI cy 1 f)]) (As := []) (st := [vi (td + (1 + y0))]) (b := ad 0) kV_L_40 (c_today l D cy sa hfl ad nr M2 h (td + (1 + y0)) q rq nd hc2) 0 cl_0 rfl rfl rfl (Nat.le_of_ble_eq_true rfl) ⟨by decide, by decide⟩ ⟨by show _ ≤ 600074; omega, by show _ ≤ 7301550; omega⟩ dL_law_396 (fun _ _ h => h.elim) (fun v3 w3 r3 => ?_)
    obtain ⟨rfl, M3, hw3, hc3⟩ := r3
    rw [hw3]
    show V D 11 A p l e room_1 s m args below meth c Q (k + 6 + 6 + 6) (n + 36 + 36 + 36) ([(g, arI cy 1 f)] ++ cl cy (sa 100) ad nr M3) 399 [(8, vi (1 + y0)), (7, vi (nr : Int)), (6, vi wt), (5, vi w), (4, vi v), (3, vi i), (0, .ref (sa 101)), (1, .ref (ad 0)), (2, .ref g)] [vi (td + (1 + y0)), vi (td + (1 + y0))]
    refine V.icmp_eq C 404 dL_law_399 (by decide) ⟨by omega, by omega⟩ ⟨by omega, by omega⟩ (fun h399 => ?_) (fun h399 => (by exact absurd rfl h399))
    refine V.goto C 532 dL_law_404 (by decide) ?_
    exact V.sub [5, 6, 7, 8] rfl (kk _ _ (by omega) (by omega) f ad nr M3 h (td + (1 + y0)) q rq nd rfl hc3 hla hf)
set_option maxHeartbeats 4000000 in
set_option maxRecDepth 100000 in
theorem law_c413 {p : Program} {l : Launch} {e : Env} {s : State} {m : MethodId} {args : Array Value} {below : List Frame} {meth : Method} {c : Code} {D : va_G} {cy : Nat → ClassId} {sa : Nat → Addr} {A : Nat → Prop} {Q : State → Prop} (hfl : l.stackTraces = false) (C : Cx D cy sa RL cL_law 11 (some .boolean) A p l s m args meth c) {k n : Nat} (hk : k + 1300 ≤ 600074) (hn9 : n + 7800 ≤ 7301550) (g : Nat) (f : Int → Int) (ad : Nat → Nat) (nr : Nat) (M : Nat → Int → Int) (h : Int → Bool) (td : Int) (q : Nat → Nat → Int) (rq nd : Nat → Nat) (hci : CI h td nr q rq nd M) (hla : LA nr rq nd) (hf : f 0 = SF q nr) (i v w wt : Int) (hv : inR v) (hw : inR w) (kk : ∀ k2 n2 : Nat, k2 ≤ k + 1300 → n2 ≤ n + 7800 → LV D cy sa A p l e s m args below meth c Q (ad 0) g k2 n2 532 [(3, vi i)] []) (hn1 : 1 ≤ nr) : V D 11 A p l e room_1 s m args below meth c Q k n ([(g, arI cy 1 f)] ++ cl cy (sa 100) ad nr M) 413 [(7, vi (nr : Int)), (6, vi wt), (5, vi w), (4, vi v), (3, vi i), (0, .ref (sa 101)), (1, .ref (ad 0)), (2, .ref g)] [] := by
  obtain ⟨-, ⟨-, td0, td1⟩, hn8, -⟩ := id hci
  refine V.iload C dL_law_413 2 rfl ?_
  refine V.iload C dL_law_415 0 rfl ?_
  refine V.callS C (As := [vi w, vi (nr : Int)]) (st := []) (wr := []) kS_L_61 (c_low l D cy sa hfl _ w (nr : Int) hw ⟨by omega, by omega⟩) rfl rfl rfl (Nat.le_of_ble_eq_true rfl) ⟨by decide, by decide⟩ ⟨by show _ ≤ 600074; omega, by show _ ≤ 7301550; omega⟩ dL_law_417 (fun _ _ h => h.elim) (fun v1 w2 r3 => ?_)
  obtain ⟨rfl, hw2⟩ := r3
  rw [hw2]
  show V D 11 A p l e room_1 s m args below meth c Q k n ([(g, arI cy 1 f)] ++ cl cy (sa 100) ad nr M) 420 [(7, vi (nr : Int)), (6, vi wt), (5, vi w), (4, vi v), (3, vi i), (0, .ref (sa 101)), (1, .ref (ad 0)), (2, .ref g)] [vi (lowF w (nr : Int))]
  obtain ⟨ru, hru⟩ : ∃ y9, y9 = lowF w (nr : Int) := ⟨_, rfl⟩
  rw [← hru]
  have rru := lowF_rng (v := w) (n := (nr : Int)) (by omega)
  rw [← hru] at rru
  skip
  refine V.istore C (lc2 := [(8, vi ru), (7, vi (nr : Int)), (6, vi wt), (5, vi w), (4, vi v), (3, vi i), (0, .ref (sa 101)), (1, .ref (ad 0)), (2, .ref g)]) dL_law_420 (by decide) rfl ?_
  refine V.iload C dL_law_422 3 rfl ?_
  refine V.iconst C dL_law_424 ?_
  refine V.ishr C (z := shrF w 4) dL_law_425 (shrF_eq _ _) ?_
  refine V.iconst C dL_law_426 ?_
  refine V.callS C (As := [vi (shrF w 4), vi 3]) (st := []) (wr := []) kS_L_61 (c_low l D cy sa hfl _ (shrF w 4) 3 (shrF_in _ _) ⟨by omega, by omega⟩) rfl rfl rfl (Nat.le_of_ble_eq_true rfl) ⟨by decide, by decide⟩ ⟨by show _ ≤ 600074; omega, by show _ ≤ 7301550; omega⟩ dL_law_427 (fun _ _ h => h.elim) (fun v4 w5 r6 => ?_)
  obtain ⟨rfl, hw5⟩ := r6
  rw [hw5]
  show V D 11 A p l e room_1 s m args below meth c Q k n ([(g, arI cy 1 f)] ++ cl cy (sa 100) ad nr M) 430 [(8, vi ru), (7, vi (nr : Int)), (6, vi wt), (5, vi w), (4, vi v), (3, vi i), (0, .ref (sa 101)), (1, .ref (ad 0)), (2, .ref g)] [vi (lowF (shrF w 4) 3)]
  obtain ⟨sh, hsh⟩ : ∃ y9, y9 = lowF (shrF w 4) 3 := ⟨_, rfl⟩
  rw [← hsh]
  have rsh := lowF_rng (v := shrF w 4) (n := 3) (by omega)
  rw [← hsh] at rsh
  skip
  refine V.istore C (lc2 := [(9, vi sh), (8, vi ru), (7, vi (nr : Int)), (6, vi wt), (5, vi w), (4, vi v), (3, vi i), (0, .ref (sa 101)), (1, .ref (ad 0)), (2, .ref g)]) dL_law_430 (by decide) rfl ?_
  refine V.aload_n C dL_law_432 8 rfl ?_
  refine V.iload C dL_law_433 1 rfl ?_
  refine V.iload C dL_law_435 0 rfl ?_
  have kz1 : kShift nr ru sh = 0 := kShift_0 ⟨by omega, by omega⟩ ⟨by omega, by omega⟩
  refine V.callVc C (wr := [(g, arI cy 1 f)]) (As := [vi ru, vi sh]) (st := []) (b := ad 0) kV_L_77 (c_setShift l D cy sa hfl ad nr M h td q rq nd hci ru ⟨by omega, by omega⟩ sh ⟨by omega, by omega⟩) 0 cl_0 rfl rfl rfl (Nat.le_of_ble_eq_true rfl) ⟨by decide, by decide⟩ ⟨by show _ ≤ 600074; omega, by show _ ≤ 7301550; omega⟩ dL_law_437 (fun E9 w9 hx9 => (by obtain ⟨hx9, -⟩ := hx9; exfalso; omega)) (fun v1 w1 r1 => ?_)
  obtain ⟨-, rfl, M1, hw1, hc1⟩ := r1
  rw [hw1]
  show V D 11 A p l e room_1 s m args below meth c Q (k + 6) (n + 36) ([(g, arI cy 1 f)] ++ cl cy (sa 100) ad nr M1) 440 [(9, vi sh), (8, vi ru), (7, vi (nr : Int)), (6, vi wt), (5, vi w), (4, vi v), (3, vi i), (0, .ref (sa 101)), (1, .ref (ad 0)), (2, .ref g)] [vi (q ru.toNat 5)]
  refine V.pop C dL_law_440 rfl ?_
  refine V.aload_n C dL_law_441 8 rfl ?_
  refine V.iload C dL_law_442 1 rfl ?_
  refine V.iload C dL_law_444 0 rfl ?_
  have kz2 : kShift nr ru sh = 0 := kShift_0 ⟨by omega, by omega⟩ ⟨by omega, by omega⟩
  refine V.callVc C (wr := [(g, arI cy 1 f)]) (As := [vi ru, vi sh]) (st := []) (b := ad 0) kV_L_77 (c_setShift l D cy sa hfl ad nr M1 h td (qsh q ru.toNat sh) rq nd hc1 ru ⟨by omega, by omega⟩ sh ⟨by omega, by omega⟩) 0 cl_0 rfl rfl rfl (Nat.le_of_ble_eq_true rfl) ⟨by decide, by decide⟩ ⟨by show _ ≤ 600074; omega, by show _ ≤ 7301550; omega⟩ dL_law_446 (fun E9 w9 hx9 => (by obtain ⟨hx9, -⟩ := hx9; exfalso; omega)) (fun v2 w2 r2 => ?_)
  obtain ⟨-, rfl, M2, hw2, hc2⟩ := r2
  rw [hw2]
  show V D 11 A p l e room_1 s m args below meth c Q (k + 6 + 6) (n + 36 + 36) ([(g, arI cy 1 f)] ++ cl cy (sa 100) ad nr M2) 449 [(9, vi sh), (8, vi ru), (7, vi (nr : Int)), (6, vi wt), (5, vi w), (4, vi v), (3, vi i), (0, .ref (sa 101)), (1, .ref (ad 0)), (2, .ref g)] [vi ((qsh q ru.toNat sh) ru.toNat 5)]
  rw [show (qsh q ru.toNat sh) ru.toNat 5 = sh from (by simp [qsh])]
  skip
  refine V.iload C dL_law_449 0 rfl ?_
  refine V.icmp_eq C 456 dL_law_451 (by decide) ⟨by omega, by omega⟩ ⟨by omega, by omega⟩ (fun h451 => ?_) (fun h451 => (by exact absurd rfl h451))
  refine V.goto C 532 dL_law_456 (by decide) ?_
  exact V.sub [6, 7, 8, 9] rfl (kk _ _ (by omega) (by omega) f ad nr M2 h td (qsh (qsh q ru.toNat sh) ru.toNat sh) rq nd rfl hc2 hla (hf.trans (SF.shift.trans SF.shift).symm))
set_option maxHeartbeats 4000000 in
set_option maxRecDepth 100000 in
theorem law_c466 {p : Program} {l : Launch} {e : Env} {s : State} {m : MethodId} {args : Array Value} {below : List Frame} {meth : Method} {c : Code} {D : va_G} {cy : Nat → ClassId} {sa : Nat → Addr} {A : Nat → Prop} {Q : State → Prop} (hfl : l.stackTraces = false) (C : Cx D cy sa RL cL_law 11 (some .boolean) A p l s m args meth c) {k n : Nat} (hk : k + 1300 ≤ 600074) (hn9 : n + 7800 ≤ 7301550) (g : Nat) (f : Int → Int) (ad : Nat → Nat) (nr : Nat) (M : Nat → Int → Int) (h : Int → Bool) (td : Int) (q : Nat → Nat → Int) (rq nd : Nat → Nat) (hci : CI h td nr q rq nd M) (hla : LA nr rq nd) (hf : f 0 = SF q nr) (i v w wt : Int) (hv : inR v) (hw : inR w) (kk : ∀ k2 n2 : Nat, k2 ≤ k + 1300 → n2 ≤ n + 7800 → LV D cy sa A p l e s m args below meth c Q (ad 0) g k2 n2 532 [(3, vi i)] []) (hn1 : 1 ≤ nr) : V D 11 A p l e room_1 s m args below meth c Q k n ([(g, arI cy 1 f)] ++ cl cy (sa 100) ad nr M) 466 [(7, vi (nr : Int)), (6, vi wt), (5, vi w), (4, vi v), (3, vi i), (0, .ref (sa 101)), (1, .ref (ad 0)), (2, .ref g)] [] := by
  obtain ⟨-, ⟨-, td0, td1⟩, hn8, -⟩ := id hci
  refine V.aload_n C dL_law_466 6 rfl ?_
  refine V.iload C dL_law_467 2 rfl ?_
  refine V.iload C dL_law_469 0 rfl ?_
  refine V.callS C (As := [vi w, vi (nr : Int)]) (st := [.ref (ad 0)]) (wr := []) kS_L_61 (c_low l D cy sa hfl _ w (nr : Int) hw ⟨by omega, by omega⟩) rfl rfl rfl (Nat.le_of_ble_eq_true rfl) ⟨by decide, by decide⟩ ⟨by show _ ≤ 600074; omega, by show _ ≤ 7301550; omega⟩ dL_law_471 (fun _ _ h => h.elim) (fun v1 w2 r3 => ?_)
  obtain ⟨rfl, hw2⟩ := r3
  rw [hw2]
  show V D 11 A p l e room_1 s m args below meth c Q k n ([(g, arI cy 1 f)] ++ cl cy (sa 100) ad nr M) 474 [(7, vi (nr : Int)), (6, vi wt), (5, vi w), (4, vi v), (3, vi i), (0, .ref (sa 101)), (1, .ref (ad 0)), (2, .ref g)] [vi (lowF w (nr : Int)), .ref (ad 0)]
  obtain ⟨ru, hru⟩ : ∃ y9, y9 = lowF w (nr : Int) := ⟨_, rfl⟩
  rw [← hru]
  have rru := lowF_rng (v := w) (n := (nr : Int)) (by omega)
  rw [← hru] at rru
  skip
  refine V.iload C dL_law_474 2 rfl ?_
  refine V.iconst C dL_law_476 ?_
  refine V.ishr C (z := shrF w 4) dL_law_477 (shrF_eq _ _) ?_
  refine V.sipush C dL_law_478 (by decide) ?_
  refine V.callS C (As := [vi (shrF w 4), vi 720]) (st := [vi ru, .ref (ad 0)]) (wr := []) kS_L_61 (c_low l D cy sa hfl _ (shrF w 4) 720 (shrF_in _ _) ⟨by omega, by omega⟩) rfl rfl rfl (Nat.le_of_ble_eq_true rfl) ⟨by decide, by decide⟩ ⟨by show _ ≤ 600074; omega, by show _ ≤ 7301550; omega⟩ dL_law_481 (fun _ _ h => h.elim) (fun v4 w5 r6 => ?_)
  obtain ⟨rfl, hw5⟩ := r6
  rw [hw5]
  show V D 11 A p l e room_1 s m args below meth c Q k n ([(g, arI cy 1 f)] ++ cl cy (sa 100) ad nr M) 484 [(7, vi (nr : Int)), (6, vi wt), (5, vi w), (4, vi v), (3, vi i), (0, .ref (sa 101)), (1, .ref (ad 0)), (2, .ref g)] [vi (lowF (shrF w 4) 720), vi ru, .ref (ad 0)]
  obtain ⟨day, hday⟩ : ∃ y9, y9 = lowF (shrF w 4) 720 := ⟨_, rfl⟩
  rw [← hday]
  have rday := lowF_rng (v := shrF w 4) (n := 720) (by omega)
  rw [← hday] at rday
  skip
  refine V.callS C (As := [.ref (ad 0), vi ru, vi day]) (st := []) (wr := [(g, arI cy 1 f)]) kS_L_80 (c_areDue l D cy sa hfl ad nr M h td q rq nd hci ru day ⟨by omega, by omega⟩ ⟨by omega, by omega⟩) rfl rfl rfl (Nat.le_of_ble_eq_true rfl) ⟨by decide, by decide⟩ ⟨by show _ ≤ 600074; omega, by show _ ≤ 7301550; omega⟩ dL_law_484 (fun _ _ h => h.elim) (fun v9 w9 r9 => ?_)
  obtain ⟨rfl, M9, hw9, hc9⟩ := r9
  rw [hw9]
  show V D 11 A p l e room_1 s m args below meth c Q (k + 1200) (n + 7200) ([(g, arI cy 1 f)] ++ cl cy (sa 100) ad nr M9) 487 [(7, vi (nr : Int)), (6, vi wt), (5, vi w), (4, vi v), (3, vi i), (0, .ref (sa 101)), (1, .ref (ad 0)), (2, .ref g)] [vi (bI true)]
  refine V.if_neB C 532 dL_law_487 (by decide) (fun h487 => ?_) (fun h487 => (by cases h487))
  exact V.sub [4, 5, 6, 7] rfl (kk _ _ (by omega) (by omega) f ad nr M9 h td q rq nd rfl hc9 hla hf)
set_option maxHeartbeats 4000000 in
set_option maxRecDepth 100000 in
theorem law_c492 {p : Program} {l : Launch} {e : Env} {s : State} {m : MethodId} {args : Array Value} {below : List Frame} {meth : Method} {c : Code} {D : va_G} {cy : Nat → ClassId} {sa : Nat → Addr} {A : Nat → Prop} {Q : State → Prop} (hfl : l.stackTraces = false) (C : Cx D cy sa RL cL_law 11 (some .boolean) A p l s m args meth c) {k n : Nat} (hk : k + 1300 ≤ 600074) (hn9 : n + 7800 ≤ 7301550) (g : Nat) (f : Int → Int) (ad : Nat → Nat) (nr : Nat) (M : Nat → Int → Int) (h : Int → Bool) (td : Int) (q : Nat → Nat → Int) (rq nd : Nat → Nat) (hci : CI h td nr q rq nd M) (hla : LA nr rq nd) (hf : f 0 = SF q nr) (i v w wt : Int) (hv : inR v) (hw : inR w) (kk : ∀ k2 n2 : Nat, k2 ≤ k + 1300 → n2 ≤ n + 7800 → LV D cy sa A p l e s m args below meth c Q (ad 0) g k2 n2 532 [(3, vi i)] [])  : V D 11 A p l e room_1 s m args below meth c Q k n ([(g, arI cy 1 f)] ++ cl cy (sa 100) ad nr M) 492 [(7, vi (nr : Int)), (6, vi wt), (5, vi w), (4, vi v), (3, vi i), (0, .ref (sa 101)), (1, .ref (ad 0)), (2, .ref g)] [] := by
  obtain ⟨-, ⟨-, td0, td1⟩, hn8, -⟩ := id hci
  refine V.aload_n C dL_law_492 6 rfl ?_
  refine V.callVc C (wr := [(g, arI cy 1 f)]) (As := []) (st := []) (b := ad 0) kV_L_40 (c_today l D cy sa hfl ad nr M h td q rq nd hci) 0 cl_0 rfl rfl rfl (Nat.le_of_ble_eq_true rfl) ⟨by decide, by decide⟩ ⟨by show _ ≤ 600074; omega, by show _ ≤ 7301550; omega⟩ dL_law_493 (fun _ _ h => h.elim) (fun v1 w1 r1 => ?_)
  obtain ⟨rfl, M1, hw1, hc1⟩ := r1
  rw [hw1]
  show V D 11 A p l e room_1 s m args below meth c Q (k + 6) (n + 36) ([(g, arI cy 1 f)] ++ cl cy (sa 100) ad nr M1) 496 [(7, vi (nr : Int)), (6, vi wt), (5, vi w), (4, vi v), (3, vi i), (0, .ref (sa 101)), (1, .ref (ad 0)), (2, .ref g)] [vi td]
  refine V.iload C dL_law_496 2 rfl ?_
  refine V.bipush C dL_law_498 (by decide) ?_
  refine V.callS C (As := [vi w, vi 30]) (st := [vi td]) (wr := []) kS_L_61 (c_low l D cy sa hfl _ w 30 hw ⟨by omega, by omega⟩) rfl rfl rfl (Nat.le_of_ble_eq_true rfl) ⟨by decide, by decide⟩ ⟨by show _ ≤ 600074; omega, by show _ ≤ 7301550; omega⟩ dL_law_500 (fun _ _ h => h.elim) (fun v1 w2 r3 => ?_)
  obtain ⟨rfl, hw2⟩ := r3
  rw [hw2]
  show V D 11 A p l e room_1 s m args below meth c Q (k + 6) (n + 36) ([(g, arI cy 1 f)] ++ cl cy (sa 100) ad nr M1) 503 [(7, vi (nr : Int)), (6, vi wt), (5, vi w), (4, vi v), (3, vi i), (0, .ref (sa 101)), (1, .ref (ad 0)), (2, .ref g)] [vi (lowF w 30), vi td]
  obtain ⟨y0, hy0⟩ : ∃ y9, y9 = lowF w 30 := ⟨_, rfl⟩
  rw [← hy0]
  have ry0 := lowF_rng (v := w) (n := 30) (by omega)
  rw [← hy0] at ry0
  skip
  refine V.iadd C dL_law_503 ?_
  refine V.istore C (lc2 := [(8, vi (td + y0)), (7, vi (nr : Int)), (6, vi wt), (5, vi w), (4, vi v), (3, vi i), (0, .ref (sa 101)), (1, .ref (ad 0)), (2, .ref g)]) dL_law_504 (by decide) rfl ?_
  refine V.aload_n C dL_law_506 7 rfl ?_
  refine V.iload C dL_law_507 0 rfl ?_
  refine V.sipush C dL_law_509 (by decide) ?_
  refine V.icmp_ge C 520 dL_law_512 (by decide) ⟨by omega, by omega⟩ ⟨by decide, by decide⟩ (fun h512 => ?_) (fun h512 => ?_)
  · skip
    refine V.sipush C dL_law_520 (by decide) ?_
    refine V.aload_n C dL_law_523 8 rfl ?_
    refine V.callS C (As := [.ref (ad 0), vi 719, .ref g]) (st := []) (wr := []) kS_L_84 (c_isOrder l D cy sa hfl ad nr M1 h td q rq nd hc1 hla g f hf 719 ⟨by omega, by omega⟩) rfl rfl rfl (Nat.le_of_ble_eq_true rfl) ⟨by decide, by decide⟩ ⟨by show _ ≤ 600074; omega, by show _ ≤ 7301550; omega⟩ dL_law_524 (fun _ _ h => h.elim) (fun v9 w9 r9 => ?_)
    obtain ⟨rfl, q9, M9, f9, hw9, hc9, hf9⟩ := r9
    rw [hw9]
    show V D 11 A p l e room_1 s m args below meth c Q (k + 6 + 1200) (n + 36 + 7200) ([(g, arI cy 1 f9)] ++ cl cy (sa 100) ad nr M9) 527 [(8, vi (td + y0)), (7, vi (nr : Int)), (6, vi wt), (5, vi w), (4, vi v), (3, vi i), (0, .ref (sa 101)), (1, .ref (ad 0)), (2, .ref g)] [vi (bI true)]
    refine V.if_neB C 532 dL_law_527 (by decide) (fun h527 => ?_) (fun h527 => (by cases h527))
    exact V.sub [5, 6, 7, 8] rfl (kk _ _ (by omega) (by omega) f9 ad nr M9 h td q9 rq nd rfl hc9 hla hf9)
  · skip
    refine V.iload C dL_law_515 0 rfl ?_
    refine V.goto C 523 dL_law_517 (by decide) ?_
    refine V.aload_n C dL_law_523 8 rfl ?_
    refine V.callS C (As := [.ref (ad 0), vi (td + y0), .ref g]) (st := []) (wr := []) kS_L_84 (c_isOrder l D cy sa hfl ad nr M1 h td q rq nd hc1 hla g f hf (td + y0) ⟨by omega, by omega⟩) rfl rfl rfl (Nat.le_of_ble_eq_true rfl) ⟨by decide, by decide⟩ ⟨by show _ ≤ 600074; omega, by show _ ≤ 7301550; omega⟩ dL_law_524 (fun _ _ h => h.elim) (fun v9 w9 r9 => ?_)
    obtain ⟨rfl, q9, M9, f9, hw9, hc9, hf9⟩ := r9
    rw [hw9]
    show V D 11 A p l e room_1 s m args below meth c Q (k + 6 + 1200) (n + 36 + 7200) ([(g, arI cy 1 f9)] ++ cl cy (sa 100) ad nr M9) 527 [(8, vi (td + y0)), (7, vi (nr : Int)), (6, vi wt), (5, vi w), (4, vi v), (3, vi i), (0, .ref (sa 101)), (1, .ref (ad 0)), (2, .ref g)] [vi (bI true)]
    refine V.if_neB C 532 dL_law_527 (by decide) (fun h527 => ?_) (fun h527 => (by cases h527))
    exact V.sub [5, 6, 7, 8] rfl (kk _ _ (by omega) (by omega) f9 ad nr M9 h td q9 rq nd rfl hc9 hla hf9)
