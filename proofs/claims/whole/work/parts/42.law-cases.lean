/-! the law's loop: its cases -/
theorem V.sldE {p : Program} {l : Launch} {e : Env} {R : Room} {s : State} {m : MethodId} {args : Array Value} {below : List Frame} {meth : Method} {c : Code} {D : va_G} {cy : Nat → ClassId} {sa : Nat → Addr} {own : String} {cc : ByteArray} {nL : Nat} {ret : Option FieldType} {A : Nat → Prop} {Q : State → Prop} {k n : Nat} {ws : va_W} {pc : Nat} {lc : List (Nat × Value)} {st : List Value} (C : Cx D cy sa own cc nL ret A p l s m args meth c) {b L : Nat} {xs : Nat → Int32} (hX : va_X b L xs s s.heap) (hbl : b < s.heap.size) (hbA : ¬ A b) (hL : L ≤ 65536) {i v : Int} (h0 : 0 ≤ i) (h1 : i < (L : Int)) (hv : v = (xs i.toNat).toInt) (d : decode cc pc = .ok (.iaload, 1))
    (kk : V D nL A p l e R s m args below meth c Q k n ws (pc + 1) lc (vi v :: st)) : V D nL A p l e R s m args below meth c Q k n ws pc lc (vi i :: .ref b :: st) := by
  subst hv
  exact V.sld C hX hbl hbA hL h0 h1 d kk
/-- the law at a place of its loop, over every state of the class and of the reference that agree -/
def LV (D : va_G) (cy : Nat → ClassId) (sa : Nat → Addr) (A : Nat → Prop) (p : Program) (l : Launch) (e : Env) (s : State) (m : MethodId) (args : Array Value) (below : List Frame) (meth : Method) (c : Code) (Q : State → Prop) (b o a1 a2 : Nat) (k n pc : Nat) (lo : List (Nat × Value)) (st : List Value) : Prop :=
  ∀ (f : Nat → Int64) (adc adm : Nat → Nat) (nr : Nat) (Mc Mm : Nat → Int → Int) (h : Int → Bool) (td : Int) (q : Nat → Nat → Int) (rq nd : Nat → Nat), adc 0 = a1 → adm 0 = a2 → CI h td nr q rq nd Mc → MI h td nr q rq Mm → Cls nr rq nd →
    V D 7 A p l e room_1 s m args below meth c Q k n (ml cy adm Mm ++ wx cy sa o f adc nr Mc) pc (lo ++ [(0, .ref b), (1, .ref a1), (2, .ref a2), (3, .ref o)]) st
theorem kRule_rng (n : Nat) (x : Int) : 0 ≤ kRule n x ∧ kRule n x ≤ 3 := by unfold kRule; split <;> omega
theorem kDay_rng (x : Int) : 0 ≤ kDay x ∧ kDay x ≤ 3 := by unfold kDay; split <;> omega
theorem kRD_rng (n : Nat) (x z : Int) : 0 ≤ kRD n x z ∧ kRD n x z ≤ 3 := by unfold kRD; split <;> omega
theorem kRP_rng (n : Nat) (x z : Int) : 0 ≤ kRP n x z ∧ kRP n x z ≤ 3 := by unfold kRP; split <;> omega
theorem kDP_rng (x z : Int) : 0 ≤ kDP x z ∧ kDP x z ≤ 3 := by unfold kDP; split <;> omega
theorem kPass_rng (td x : Int) : 0 ≤ kPass td x ∧ kPass td x ≤ 3 := by
  unfold kPass
  split
  · split <;> omega
  · omega
theorem kShift_rng (n : Nat) (x z : Int) : 0 ≤ kShift n x z ∧ kShift n x z ≤ 3 := by
  unfold kShift
  split
  · split <;> omega
  · omega
theorem kLasts_rng (n : Nat) (q : Nat → Nat → Int) (x : Int) : 0 ≤ kLasts n q x ∧ kLasts n q x ≤ 3 := by
  unfold kLasts
  split
  · split <;> omega
  · omega
theorem kReq_rng (n : Nat) (nd : Nat → Nat) (x z : Int) : 0 ≤ kReq n nd x z ∧ kReq n nd x z ≤ 3 := by
  unfold kReq
  split
  · split <;> omega
  · omega
theorem kFin_rng (h : Int → Bool) (n : Nat) (q : Nat → Nat → Int) (rq : Nat → Nat) (x : Int) : 0 ≤ kFin h n q rq x ∧ kFin h n q rq x ≤ 3 := by
  unfold kFin
  split
  · split
    · omega
    · split <;> omega
  · omega
theorem kAdd_rng (n : Nat) (kd nn sh fs ef va : Int) : 0 ≤ kAdd n kd nn sh fs ef va ∧ kAdd n kd nn sh fs ef va ≤ 3 := by
  unfold kAdd
  split
  · split
    · split <;> omega
    · omega
  · omega
theorem kSpan_rng3 (x z : Int) : 0 ≤ kSpan x z ∧ kSpan x z ≤ 3 := by have := kSpan_rng x z; omega
theorem kLevelled_rng3 (x z cap d : Int) : 0 ≤ kLevelled x z cap d ∧ kLevelled x z cap d ≤ 3 := by have := kLevelled_rng x z cap d; omega
theorem kLevel_rng3 (x z cap : Int) : 0 ≤ kLevel x z cap ∧ kLevel x z cap ≤ 3 := by have := kLevelled_rng x z cap 0; rw [kLevelled_0] at this; omega
theorem Cls.req9 {n : Nat} {rq nd : Nat → Nat} (hc : Cls n rq nd) {x z : Int} (h : kReq n nd x z = 0) : Cls n (rqN rq x.toNat z.toNat) (ndN rq nd x.toNat z.toNat) := by
  unfold kReq at h
  split at h
  · rename_i g
    split at h
    · omega
    · rename_i g2
      exact hc.req (by omega) (by omega) (fun e => g2 (Or.inl (by omega))) (fun e => g2 (Or.inr e))
  · omega
theorem late_inR {h : Int → Bool} {td : Int} {n : Nat} {q : Nat → Nat → Int} {rq nd : Nat → Nat} {M : Nat → Int → Int} (hc : CI h td n q rq nd M) : inR (sumN (late h q td) n) := by
  obtain ⟨-, ⟨-, td0, td1⟩, hn, hR⟩ := hc
  have := sumN_rng (f := late h q td) (b := 720) (by decide) (n := n) fun i hi => by
    have p8 := (hR i hi).2.1.2.2.2.2.2.2.2.2.1
    have := ct_rng (dueR h (q i)) 0 td td0
    unfold late
    split <;> omega
  exact ⟨by omega, by omega⟩
theorem kX_L_97 : LkSX RL 97 yL_holiday cL_holiday 4 (some .int) [(0, 16, 19, 13)] 3 := ⟨ml_L_97, st_L_holiday, in_L, co_L_holiday, by decide +kernel⟩
theorem kX_L_107 : LkSX RL 107 yL_isWorking cL_isWorking 4 (some .int) [(0, 16, 19, 13)] 3 := ⟨ml_L_107, st_L_isWorking, in_L, co_L_isWorking, by decide +kernel⟩
theorem kX_L_110 : LkSX RL 110 yL_workingDays cL_workingDays 5 (some .int) [(0, 10, 13, 13), (0, 10, 17, 22)] 4 := ⟨ml_L_110, st_L_workingDays, in_L, co_L_workingDays, by decide +kernel⟩
theorem kX_L_114 : LkSX RL 114 yL_pass cL_pass 4 (some .int) [(0, 9, 12, 22), (0, 9, 15, 28)] 3 := ⟨ml_L_114, st_L_pass, in_L, co_L_pass, by decide +kernel⟩
theorem kX_L_121 : LkSX RL 121 yL_addRule cL_addRule 9 (some .int) [(0, 18, 21, 13), (0, 18, 25, 22), (0, 18, 29, 28)] 8 := ⟨ml_L_121, st_L_addRule, in_L, co_L_addRule, by decide +kernel⟩
theorem kX_L_125 : LkSX RL 125 yL_setShift cL_setShift 5 (some .int) [(0, 10, 13, 13), (0, 10, 17, 22)] 4 := ⟨ml_L_125, st_L_setShift, in_L, co_L_setShift, by decide +kernel⟩
theorem kX_L_128 : LkSX RL 128 yL_require cL_require 5 (some .int) [(0, 17, 20, 13), (0, 17, 24, 28)] 4 := ⟨ml_L_128, st_L_require, in_L, co_L_require, by decide +kernel⟩
theorem kX_L_135 : LkSX RL 135 yL_dueDay cL_dueDay 5 (some .int) [(0, 10, 13, 13)] 4 := ⟨ml_L_135, st_L_dueDay, in_L, co_L_dueDay, by decide +kernel⟩
theorem kX_L_138 : LkSX RL 138 yL_duties cL_duties 4 (some .int) [(0, 9, 12, 13)] 3 := ⟨ml_L_138, st_L_duties, in_L, co_L_duties, by decide +kernel⟩
theorem kX_L_141 : LkSX RL 141 yL_nextDue cL_nextDue 5 (some .int) [(0, 10, 13, 13)] 4 := ⟨ml_L_141, st_L_nextDue, in_L, co_L_nextDue, by decide +kernel⟩
theorem kX_L_144 : LkSX RL 144 yL_nextDueByWalking cL_nextDueByWalking 5 (some .int) [(0, 10, 13, 13)] 4 := ⟨ml_L_144, st_L_nextDueByWalking, in_L, co_L_nextDueByWalking, by decide +kernel⟩
theorem kX_L_147 : LkSX RL 147 yL_upcoming cL_upcoming 5 (some .int) [(0, 10, 13, 13)] 4 := ⟨ml_L_147, st_L_upcoming, in_L, co_L_upcoming, by decide +kernel⟩
theorem kX_L_150 : LkSX RL 150 yL_finish cL_finish 4 (some .int) [(0, 9, 12, 13), (0, 9, 15, 59), (0, 9, 18, 28)] 3 := ⟨ml_L_150, st_L_finish, in_L, co_L_finish, by decide +kernel⟩
theorem kX_L_153 : LkSX RL 153 yL_open cL_open 4 (some .int) [(0, 9, 12, 13)] 3 := ⟨ml_L_153, st_L_open, in_L, co_L_open, by decide +kernel⟩
theorem kX_L_156 : LkSX RL 156 yL_finished cL_finished 4 (some .int) [(0, 9, 12, 13)] 3 := ⟨ml_L_156, st_L_finished, in_L, co_L_finished, by decide +kernel⟩
theorem kX_L_159 : LkSX RL 159 yL_blockedBy cL_blockedBy 4 (some .int) [(0, 9, 12, 13)] 3 := ⟨ml_L_159, st_L_blockedBy, in_L, co_L_blockedBy, by decide +kernel⟩
theorem kX_L_166 : LkSX RL 166 yL_order cL_order 5 (some .int) [(0, 10, 13, 13)] 4 := ⟨ml_L_166, st_L_order, in_L, co_L_order, by decide +kernel⟩
theorem kX_L_169 : LkSX RL 169 yL_isCovered cL_isCovered 5 (some .int) [(0, 17, 20, 13)] 4 := ⟨ml_L_169, st_L_isCovered, in_L, co_L_isCovered, by decide +kernel⟩
theorem kX_L_172 : LkSX RL 172 yL_lasts cL_lasts 4 (some .int) [(0, 9, 12, 13), (0, 9, 15, 59)] 3 := ⟨ml_L_172, st_L_lasts, in_L, co_L_lasts, by decide +kernel⟩
theorem kX_L_175 : LkSX RL 175 yL_load cL_load 4 (some .int) [(0, 9, 12, 13)] 3 := ⟨ml_L_175, st_L_load, in_L, co_L_load, by decide +kernel⟩
theorem kX_L_178 : LkSX RL 178 yL_heaviest cL_heaviest 5 (some .int) [(0, 10, 13, 13), (0, 10, 17, 22)] 4 := ⟨ml_L_178, st_L_heaviest, in_L, co_L_heaviest, by decide +kernel⟩
theorem kX_L_181 : LkSX RL 181 yL_level cL_level 6 (some .int) [(0, 12, 15, 13), (0, 12, 19, 22)] 5 := ⟨ml_L_181, st_L_level, in_L, co_L_level, by decide +kernel⟩
theorem kX_L_185 : LkSX RL 185 yL_levelled cL_levelled 7 (some .int) [(0, 14, 17, 13), (0, 14, 21, 22)] 6 := ⟨ml_L_185, st_L_levelled, in_L, co_L_levelled, by decide +kernel⟩
set_option maxHeartbeats 4000000 in
set_option maxRecDepth 100000 in
theorem law_c0 {p : Program} {l : Launch} {e : Env} {s : State} {m : MethodId} {args : Array Value} {below : List Frame} {meth : Method} {c : Code} {D : va_G} {cy : Nat → ClassId} {sa : Nat → Addr} {A : Nat → Prop} {Q : State → Prop} (hfl : l.stackTraces = false) (C : Cx D cy sa RL cL_law 7 (some .boolean) A p l s m args meth c) {b L : Nat} {xs : Nat → Int32} (hX : va_X b L xs s s.heap) (hbl : b < s.heap.size) (hbA : ¬ A b) (hL : L ≤ 3584) {k n : Nat} (hk : k + 20 ≤ room_1.cells) (hn9 : n + 1000 ≤ room_1.slots) {o a1 a2 : Nat} {i : Int} (i0 : 0 ≤ i) (i1 : i + 7 ≤ (L : Int)) (kk : ∀ k2 n2 : Nat, k2 ≤ k + 20 → n2 ≤ n + 1000 → LV D cy sa A p l e s m args below meth c Q b o a1 a2 k2 n2 1757 [(4, vi i)] []) : LV D cy sa A p l e s m args below meth c Q b o a1 a2 k n 160 [(4, vi i)] [] := by
  intro f adc adm nr Mc Mm h td q rq nd rfl rfl hci hmi hcl
  obtain ⟨x, hx⟩ : ∃ y, y = (xs (i + 1).toNat).toInt := ⟨_, rfl⟩
  have rx : inR x := by rw [hx]; exact zI_inR _
  show V D 7 A p l e room_1 s m args below meth c Q k n (ml cy adm Mm ++ wx cy sa o f adc nr Mc) 160 [(4, vi i), (0, .ref b), (1, .ref (adc 0)), (2, .ref (adm 0)), (3, .ref o)] []
  refine V.aload_n C dL_law_160 2 rfl ?_
  refine V.aload_n C dL_law_161 1 rfl ?_
  refine V.iload C dL_law_162 0 rfl ?_
  refine V.iconst C dL_law_164 ?_
  refine V.iadd C dL_law_165 ?_
  refine V.sldE C hX hbl hbA (by omega) (v := x) (by omega) (by omega) hx dL_law_166 ?_
  refine V.aload_n C dL_law_167 4 rfl ?_
  refine V.callSX C (As := [.ref (adc 0), vi x, .ref o]) (st := []) (wr := ml cy adm Mm) kX_L_97 (l_holiday l D cy sa hfl o f adc nr Mc h td q rq nd hci x rx) rfl rfl rfl (Nat.le_of_ble_eq_true rfl) ⟨by decide, by decide⟩ ⟨by omega, by omega⟩ dL_law_168 (fun v1 w1 r1 => ?_)
  obtain ⟨rfl, f2, Mc2, hw1, e0, e1⟩ := r1
  rw [hw1]
  show V D 7 A p l e room_1 s m args below meth c Q (k + 6) (n + 36) (ml cy adm Mm ++ wx cy sa o f2 adc nr Mc2) 171 [(4, vi i), (0, .ref b), (1, .ref (adc 0)), (2, .ref (adm 0)), (3, .ref o)] [vi (kDay x)]
  have hkr := kDay_rng  x
  refine V.istore C (lc2 := [(5, vi (kDay x)), (4, vi i), (0, .ref b), (1, .ref (adc 0)), (2, .ref (adm 0)), (3, .ref o)]) dL_law_171 (by decide) rfl ?_
  refine V.aload_n C dL_law_173 4 rfl ?_
  refine V.aload_n C dL_law_174 2 rfl ?_
  refine V.iload C dL_law_175 1 rfl ?_
  refine V.iconst C dL_law_177 ?_
  refine V.iadd C dL_law_178 ?_
  refine V.sldE C hX hbl hbA (by omega) (v := x) (by omega) (by omega) hx dL_law_179 ?_
  refine V.perm List.perm_append_comm ?_
  refine V.callVc C (wr := wx cy sa o f2 adc nr Mc2) (As := [vi x]) (st := []) (b := adm 0) kV_L_102 (c_m_holiday l D cy sa hfl adm Mm h td nr q rq hmi  x rx) 0 rfl rfl rfl rfl (Nat.le_of_ble_eq_true rfl) ⟨by decide, by decide⟩ ⟨by omega, by omega⟩ dL_law_180 (fun _ _ h => h.elim) (fun v2 w2 r2 => ?_)
  obtain ⟨y, rfl, hy, Mm2, hw2, ht, hm⟩ := r2
  rw [hw2]
  refine V.perm List.perm_append_comm ?_
  show V D 7 A p l e room_1 s m args below meth c Q (k + 6) (n + 36) (ml cy adm Mm2 ++ wx cy sa o f2 adc nr Mc2) 183 [(5, vi (kDay x)), (4, vi i), (0, .ref b), (1, .ref (adc 0)), (2, .ref (adm 0)), (3, .ref o)] [vi (bI y)]
  refine V.istore C (lc2 := [(6, vi (bI y)), (5, vi (kDay x)), (4, vi i), (0, .ref b), (1, .ref (adc 0)), (2, .ref (adm 0)), (3, .ref o)]) dL_law_183 (by decide) rfl ?_
  refine V.aload_n C dL_law_185 5 rfl ?_
  refine V.perm List.perm_append_comm ?_
  refine V.callVc C (wr := wx cy sa o f2 adc nr Mc2) (As := []) (st := []) (b := adm 0) kV_L_103 (c_m_thrown l D cy sa hfl adm Mm2) 0 rfl rfl rfl rfl (Nat.le_of_ble_eq_true rfl) ⟨by decide, by decide⟩ ⟨by omega, by omega⟩ dL_law_186 (fun _ _ h => h.elim) (fun v3 w3 r3 => ?_)
  obtain ⟨rfl, hw3⟩ := r3
  rw [hw3, ht]
  refine V.perm List.perm_append_comm ?_
  show V D 7 A p l e room_1 s m args below meth c Q (k + 6) (n + 36) (ml cy adm Mm2 ++ wx cy sa o f2 adc nr Mc2) 189 [(6, vi (bI y)), (5, vi (kDay x)), (4, vi i), (0, .ref b), (1, .ref (adc 0)), (2, .ref (adm 0)), (3, .ref o)] [vi (kDay x)]
  refine V.iload C dL_law_189 1 rfl ?_
  refine V.icmp_eq C 196 dL_law_191 (by decide) ⟨by omega, by omega⟩ ⟨by omega, by omega⟩ (fun h191 => ?_) (fun h191 => (by exact absurd rfl h191))
  refine V.iload C dL_law_196 1 rfl ?_
  refine V.if_ne C 220 dL_law_198 (by decide) ⟨by omega, by omega⟩ (fun h198 => ?_) (fun h198 => ?_)
  · skip
    refine V.goto C 1757 dL_law_220 (by decide) ?_
    exact V.sub [2, 3, 4, 5, 6] rfl (kk _ _ (by omega) (by omega) f2 adc adm nr Mc2 Mm2 h td q rq nd rfl rfl (e1 h198) (hm.2 h198) hcl)
  · skip
    refine V.aload_n C dL_law_201 6 rfl ?_
    refine V.iconst C dL_law_202 ?_
    refine V.lald C (v := L64 (!h x)) 16 rfl (by decide) (by decide) (by decide) (e0 h198).1 dL_law_203 ?_
    show V D 7 A p l e room_1 s m args below meth c Q (k + 6) (n + 36) (ml cy adm Mm2 ++ wx cy sa o f2 adc nr Mc2) 204 [(6, vi (bI y)), (5, vi (kDay x)), (4, vi i), (0, .ref b), (1, .ref (adc 0)), (2, .ref (adm 0)), (3, .ref o)] [.long (L64 (!h x))]
    refine V.iload C dL_law_204 0 rfl ?_
    refine V.if_eqB C 213 dL_law_206 (by decide) (fun h206 => ?_) (fun h206 => ?_)
    · skip
      refine V.lconst C (v := 0) dL_law_213 rfl ?_
      show V D 7 A p l e room_1 s m args below meth c Q (k + 6) (n + 36) (ml cy adm Mm2 ++ wx cy sa o f2 adc nr Mc2) 214 [(6, vi (bI y)), (5, vi (kDay x)), (4, vi i), (0, .ref b), (1, .ref (adc 0)), (2, .ref (adm 0)), (3, .ref o)] [.long 0, .long (L64 (!h x))]
      refine V.lcmpE C dL_law_214 (by rw [← hy h198, h206]; rfl) ?_
      show V D 7 A p l e room_1 s m args below meth c Q (k + 6) (n + 36) (ml cy adm Mm2 ++ wx cy sa o f2 adc nr Mc2) 215 [(6, vi (bI y)), (5, vi (kDay x)), (4, vi i), (0, .ref b), (1, .ref (adc 0)), (2, .ref (adm 0)), (3, .ref o)] [vi 0]
      refine V.if_eq C 220 dL_law_215 (by decide) ⟨by decide, by decide⟩ (fun h215 => ?_) (fun h215 => (by exact absurd h215 (by decide)))
      refine V.goto C 1757 dL_law_220 (by decide) ?_
      exact V.sub [2, 3, 4, 5, 6] rfl (kk _ _ (by omega) (by omega) f2 adc adm nr Mc2 Mm2 _ _ _ _ _ rfl rfl (e0 h198).2 (hm.1 h198) hcl)
    · skip
      refine V.lconst C (v := 1) dL_law_209 rfl ?_
      show V D 7 A p l e room_1 s m args below meth c Q (k + 6) (n + 36) (ml cy adm Mm2 ++ wx cy sa o f2 adc nr Mc2) 210 [(6, vi (bI y)), (5, vi (kDay x)), (4, vi i), (0, .ref b), (1, .ref (adc 0)), (2, .ref (adm 0)), (3, .ref o)] [.long 1, .long (L64 (!h x))]
      refine V.goto C 214 dL_law_210 (by decide) ?_
      refine V.lcmpE C dL_law_214 (by rw [← hy h198, h206]; rfl) ?_
      show V D 7 A p l e room_1 s m args below meth c Q (k + 6) (n + 36) (ml cy adm Mm2 ++ wx cy sa o f2 adc nr Mc2) 215 [(6, vi (bI y)), (5, vi (kDay x)), (4, vi i), (0, .ref b), (1, .ref (adc 0)), (2, .ref (adm 0)), (3, .ref o)] [vi 0]
      refine V.if_eq C 220 dL_law_215 (by decide) ⟨by decide, by decide⟩ (fun h215 => ?_) (fun h215 => (by exact absurd h215 (by decide)))
      refine V.goto C 1757 dL_law_220 (by decide) ?_
      exact V.sub [2, 3, 4, 5, 6] rfl (kk _ _ (by omega) (by omega) f2 adc adm nr Mc2 Mm2 _ _ _ _ _ rfl rfl (e0 h198).2 (hm.1 h198) hcl)
set_option maxHeartbeats 4000000 in
set_option maxRecDepth 100000 in
theorem law_c1 {p : Program} {l : Launch} {e : Env} {s : State} {m : MethodId} {args : Array Value} {below : List Frame} {meth : Method} {c : Code} {D : va_G} {cy : Nat → ClassId} {sa : Nat → Addr} {A : Nat → Prop} {Q : State → Prop} (hfl : l.stackTraces = false) (C : Cx D cy sa RL cL_law 7 (some .boolean) A p l s m args meth c) {b L : Nat} {xs : Nat → Int32} (hX : va_X b L xs s s.heap) (hbl : b < s.heap.size) (hbA : ¬ A b) (hL : L ≤ 3584) {k n : Nat} (hk : k + 20 ≤ room_1.cells) (hn9 : n + 1000 ≤ room_1.slots) {o a1 a2 : Nat} {i : Int} (i0 : 0 ≤ i) (i1 : i + 7 ≤ (L : Int)) (kk : ∀ k2 n2 : Nat, k2 ≤ k + 20 → n2 ≤ n + 1000 → LV D cy sa A p l e s m args below meth c Q b o a1 a2 k2 n2 1757 [(4, vi i)] []) : LV D cy sa A p l e s m args below meth c Q b o a1 a2 k n 223 [(4, vi i)] [] := by
  intro f adc adm nr Mc Mm h td q rq nd rfl rfl hci hmi hcl
  obtain ⟨x, hx⟩ : ∃ y, y = (xs (i + 1).toNat).toInt := ⟨_, rfl⟩
  have rx : inR x := by rw [hx]; exact zI_inR _
  show V D 7 A p l e room_1 s m args below meth c Q k n (ml cy adm Mm ++ wx cy sa o f adc nr Mc) 223 [(4, vi i), (0, .ref b), (1, .ref (adc 0)), (2, .ref (adm 0)), (3, .ref o)] []
  refine V.aload_n C dL_law_223 2 rfl ?_
  refine V.aload_n C dL_law_224 1 rfl ?_
  refine V.iload C dL_law_225 0 rfl ?_
  refine V.iconst C dL_law_227 ?_
  refine V.iadd C dL_law_228 ?_
  refine V.sldE C hX hbl hbA (by omega) (v := x) (by omega) (by omega) hx dL_law_229 ?_
  refine V.aload_n C dL_law_230 4 rfl ?_
  refine V.callSX C (As := [.ref (adc 0), vi x, .ref o]) (st := []) (wr := ml cy adm Mm) kX_L_107 (l_isWorking l D cy sa hfl o f adc nr Mc h td q rq nd hci x rx) rfl rfl rfl (Nat.le_of_ble_eq_true rfl) ⟨by decide, by decide⟩ ⟨by omega, by omega⟩ dL_law_231 (fun v1 w1 r1 => ?_)
  obtain ⟨rfl, f2, Mc2, hw1, e0, e1⟩ := r1
  rw [hw1]
  show V D 7 A p l e room_1 s m args below meth c Q (k + 6) (n + 36) (ml cy adm Mm ++ wx cy sa o f2 adc nr Mc2) 234 [(4, vi i), (0, .ref b), (1, .ref (adc 0)), (2, .ref (adm 0)), (3, .ref o)] [vi (kDay x)]
  have hkr := kDay_rng  x
  refine V.istore C (lc2 := [(5, vi (kDay x)), (4, vi i), (0, .ref b), (1, .ref (adc 0)), (2, .ref (adm 0)), (3, .ref o)]) dL_law_234 (by decide) rfl ?_
  refine V.aload_n C dL_law_236 4 rfl ?_
  refine V.aload_n C dL_law_237 2 rfl ?_
  refine V.iload C dL_law_238 1 rfl ?_
  refine V.iconst C dL_law_240 ?_
  refine V.iadd C dL_law_241 ?_
  refine V.sldE C hX hbl hbA (by omega) (v := x) (by omega) (by omega) hx dL_law_242 ?_
  refine V.perm List.perm_append_comm ?_
  refine V.callVc C (wr := wx cy sa o f2 adc nr Mc2) (As := [vi x]) (st := []) (b := adm 0) kV_L_109 (c_m_isWorking l D cy sa hfl adm Mm h td nr q rq hmi  x rx) 0 rfl rfl rfl rfl (Nat.le_of_ble_eq_true rfl) ⟨by decide, by decide⟩ ⟨by omega, by omega⟩ dL_law_243 (fun _ _ h => h.elim) (fun v2 w2 r2 => ?_)
  obtain ⟨y, rfl, hy, Mm2, hw2, ht, hm⟩ := r2
  rw [hw2]
  refine V.perm List.perm_append_comm ?_
  show V D 7 A p l e room_1 s m args below meth c Q (k + 6) (n + 36) (ml cy adm Mm2 ++ wx cy sa o f2 adc nr Mc2) 246 [(5, vi (kDay x)), (4, vi i), (0, .ref b), (1, .ref (adc 0)), (2, .ref (adm 0)), (3, .ref o)] [vi (bI y)]
  refine V.istore C (lc2 := [(6, vi (bI y)), (5, vi (kDay x)), (4, vi i), (0, .ref b), (1, .ref (adc 0)), (2, .ref (adm 0)), (3, .ref o)]) dL_law_246 (by decide) rfl ?_
  refine V.aload_n C dL_law_248 5 rfl ?_
  refine V.perm List.perm_append_comm ?_
  refine V.callVc C (wr := wx cy sa o f2 adc nr Mc2) (As := []) (st := []) (b := adm 0) kV_L_103 (c_m_thrown l D cy sa hfl adm Mm2) 0 rfl rfl rfl rfl (Nat.le_of_ble_eq_true rfl) ⟨by decide, by decide⟩ ⟨by omega, by omega⟩ dL_law_249 (fun _ _ h => h.elim) (fun v3 w3 r3 => ?_)
  obtain ⟨rfl, hw3⟩ := r3
  rw [hw3, ht]
  refine V.perm List.perm_append_comm ?_
  show V D 7 A p l e room_1 s m args below meth c Q (k + 6) (n + 36) (ml cy adm Mm2 ++ wx cy sa o f2 adc nr Mc2) 252 [(6, vi (bI y)), (5, vi (kDay x)), (4, vi i), (0, .ref b), (1, .ref (adc 0)), (2, .ref (adm 0)), (3, .ref o)] [vi (kDay x)]
  refine V.iload C dL_law_252 1 rfl ?_
  refine V.icmp_eq C 259 dL_law_254 (by decide) ⟨by omega, by omega⟩ ⟨by omega, by omega⟩ (fun h254 => ?_) (fun h254 => (by exact absurd rfl h254))
  refine V.iload C dL_law_259 1 rfl ?_
  refine V.if_ne C 283 dL_law_261 (by decide) ⟨by omega, by omega⟩ (fun h261 => ?_) (fun h261 => ?_)
  · skip
    refine V.goto C 1757 dL_law_283 (by decide) ?_
    exact V.sub [2, 3, 4, 5, 6] rfl (kk _ _ (by omega) (by omega) f2 adc adm nr Mc2 Mm2 h td q rq nd rfl rfl (e1 h261) hm hcl)
  · skip
    refine V.aload_n C dL_law_264 6 rfl ?_
    refine V.iconst C dL_law_265 ?_
    refine V.lald C (v := L64 (wk h x)) 16 rfl (by decide) (by decide) (by decide) (e0 h261).1 dL_law_266 ?_
    show V D 7 A p l e room_1 s m args below meth c Q (k + 6) (n + 36) (ml cy adm Mm2 ++ wx cy sa o f2 adc nr Mc2) 267 [(6, vi (bI y)), (5, vi (kDay x)), (4, vi i), (0, .ref b), (1, .ref (adc 0)), (2, .ref (adm 0)), (3, .ref o)] [.long (L64 (wk h x))]
    refine V.iload C dL_law_267 0 rfl ?_
    refine V.if_eqB C 276 dL_law_269 (by decide) (fun h269 => ?_) (fun h269 => ?_)
    · skip
      refine V.lconst C (v := 0) dL_law_276 rfl ?_
      show V D 7 A p l e room_1 s m args below meth c Q (k + 6) (n + 36) (ml cy adm Mm2 ++ wx cy sa o f2 adc nr Mc2) 277 [(6, vi (bI y)), (5, vi (kDay x)), (4, vi i), (0, .ref b), (1, .ref (adc 0)), (2, .ref (adm 0)), (3, .ref o)] [.long 0, .long (L64 (wk h x))]
      refine V.lcmpE C dL_law_277 (by rw [← hy h261, h269]; rfl) ?_
      show V D 7 A p l e room_1 s m args below meth c Q (k + 6) (n + 36) (ml cy adm Mm2 ++ wx cy sa o f2 adc nr Mc2) 278 [(6, vi (bI y)), (5, vi (kDay x)), (4, vi i), (0, .ref b), (1, .ref (adc 0)), (2, .ref (adm 0)), (3, .ref o)] [vi 0]
      refine V.if_eq C 283 dL_law_278 (by decide) ⟨by decide, by decide⟩ (fun h278 => ?_) (fun h278 => (by exact absurd h278 (by decide)))
      refine V.goto C 1757 dL_law_283 (by decide) ?_
      exact V.sub [2, 3, 4, 5, 6] rfl (kk _ _ (by omega) (by omega) f2 adc adm nr Mc2 Mm2 h td q rq nd rfl rfl (e0 h261).2 hm hcl)
    · skip
      refine V.lconst C (v := 1) dL_law_272 rfl ?_
      show V D 7 A p l e room_1 s m args below meth c Q (k + 6) (n + 36) (ml cy adm Mm2 ++ wx cy sa o f2 adc nr Mc2) 273 [(6, vi (bI y)), (5, vi (kDay x)), (4, vi i), (0, .ref b), (1, .ref (adc 0)), (2, .ref (adm 0)), (3, .ref o)] [.long 1, .long (L64 (wk h x))]
      refine V.goto C 277 dL_law_273 (by decide) ?_
      refine V.lcmpE C dL_law_277 (by rw [← hy h261, h269]; rfl) ?_
      show V D 7 A p l e room_1 s m args below meth c Q (k + 6) (n + 36) (ml cy adm Mm2 ++ wx cy sa o f2 adc nr Mc2) 278 [(6, vi (bI y)), (5, vi (kDay x)), (4, vi i), (0, .ref b), (1, .ref (adc 0)), (2, .ref (adm 0)), (3, .ref o)] [vi 0]
      refine V.if_eq C 283 dL_law_278 (by decide) ⟨by decide, by decide⟩ (fun h278 => ?_) (fun h278 => (by exact absurd h278 (by decide)))
      refine V.goto C 1757 dL_law_283 (by decide) ?_
      exact V.sub [2, 3, 4, 5, 6] rfl (kk _ _ (by omega) (by omega) f2 adc adm nr Mc2 Mm2 h td q rq nd rfl rfl (e0 h261).2 hm hcl)
set_option maxHeartbeats 4000000 in
set_option maxRecDepth 100000 in
theorem law_c2 {p : Program} {l : Launch} {e : Env} {s : State} {m : MethodId} {args : Array Value} {below : List Frame} {meth : Method} {c : Code} {D : va_G} {cy : Nat → ClassId} {sa : Nat → Addr} {A : Nat → Prop} {Q : State → Prop} (hfl : l.stackTraces = false) (C : Cx D cy sa RL cL_law 7 (some .boolean) A p l s m args meth c) {b L : Nat} {xs : Nat → Int32} (hX : va_X b L xs s s.heap) (hbl : b < s.heap.size) (hbA : ¬ A b) (hL : L ≤ 3584) {k n : Nat} (hk : k + 20 ≤ room_1.cells) (hn9 : n + 1000 ≤ room_1.slots) {o a1 a2 : Nat} {i : Int} (i0 : 0 ≤ i) (i1 : i + 7 ≤ (L : Int)) (kk : ∀ k2 n2 : Nat, k2 ≤ k + 20 → n2 ≤ n + 1000 → LV D cy sa A p l e s m args below meth c Q b o a1 a2 k2 n2 1757 [(4, vi i)] []) : LV D cy sa A p l e s m args below meth c Q b o a1 a2 k n 286 [(4, vi i)] [] := by
  intro f adc adm nr Mc Mm h td q rq nd rfl rfl hci hmi hcl
  obtain ⟨x, hx⟩ : ∃ y, y = (xs (i + 1).toNat).toInt := ⟨_, rfl⟩
  have rx : inR x := by rw [hx]; exact zI_inR _
  obtain ⟨z, hz⟩ : ∃ y, y = (xs (i + 2).toNat).toInt := ⟨_, rfl⟩
  have rz : inR z := by rw [hz]; exact zI_inR _
  show V D 7 A p l e room_1 s m args below meth c Q k n (ml cy adm Mm ++ wx cy sa o f adc nr Mc) 286 [(4, vi i), (0, .ref b), (1, .ref (adc 0)), (2, .ref (adm 0)), (3, .ref o)] []
  refine V.aload_n C dL_law_286 2 rfl ?_
  refine V.aload_n C dL_law_287 1 rfl ?_
  refine V.iload C dL_law_288 0 rfl ?_
  refine V.iconst C dL_law_290 ?_
  refine V.iadd C dL_law_291 ?_
  refine V.sldE C hX hbl hbA (by omega) (v := x) (by omega) (by omega) hx dL_law_292 ?_
  refine V.aload_n C dL_law_293 1 rfl ?_
  refine V.iload C dL_law_294 0 rfl ?_
  refine V.iconst C dL_law_296 ?_
  refine V.iadd C dL_law_297 ?_
  refine V.sldE C hX hbl hbA (by omega) (v := z) (by omega) (by omega) hz dL_law_298 ?_
  refine V.aload_n C dL_law_299 4 rfl ?_
  refine V.callSX C (As := [.ref (adc 0), vi x, vi z, .ref o]) (st := []) (wr := ml cy adm Mm) kX_L_110 (l_workingDays l D cy sa hfl o f adc nr Mc h td q rq nd hci x rx z rz) rfl rfl rfl (Nat.le_of_ble_eq_true rfl) ⟨by decide, by decide⟩ ⟨by omega, by omega⟩ dL_law_300 (fun v1 w1 r1 => ?_)
  obtain ⟨rfl, f2, Mc2, hw1, e0, e1⟩ := r1
  rw [hw1]
  show V D 7 A p l e room_1 s m args below meth c Q (k + 6) (n + 36) (ml cy adm Mm ++ wx cy sa o f2 adc nr Mc2) 303 [(4, vi i), (0, .ref b), (1, .ref (adc 0)), (2, .ref (adm 0)), (3, .ref o)] [vi (kSpan x z)]
  have hkr := kSpan_rng3  x z
  refine V.istore C (lc2 := [(5, vi (kSpan x z)), (4, vi i), (0, .ref b), (1, .ref (adc 0)), (2, .ref (adm 0)), (3, .ref o)]) dL_law_303 (by decide) rfl ?_
  refine V.aload_n C dL_law_305 4 rfl ?_
  refine V.aload_n C dL_law_306 2 rfl ?_
  refine V.iload C dL_law_307 1 rfl ?_
  refine V.iconst C dL_law_309 ?_
  refine V.iadd C dL_law_310 ?_
  refine V.sldE C hX hbl hbA (by omega) (v := x) (by omega) (by omega) hx dL_law_311 ?_
  refine V.aload_n C dL_law_312 2 rfl ?_
  refine V.iload C dL_law_313 1 rfl ?_
  refine V.iconst C dL_law_315 ?_
  refine V.iadd C dL_law_316 ?_
  refine V.sldE C hX hbl hbA (by omega) (v := z) (by omega) (by omega) hz dL_law_317 ?_
  refine V.perm List.perm_append_comm ?_
  refine V.callVc C (wr := wx cy sa o f2 adc nr Mc2) (As := [vi x, vi z]) (st := []) (b := adm 0) kV_L_113 (c_m_workingDays l D cy sa hfl adm Mm h td nr q rq hmi  x rx z rz) 0 rfl rfl rfl rfl (Nat.le_of_ble_eq_true rfl) ⟨by decide, by decide⟩ ⟨by omega, by omega⟩ dL_law_318 (fun _ _ h => h.elim) (fun v2 w2 r2 => ?_)
  obtain ⟨y, rfl, hy, Mm2, hw2, ht, hm⟩ := r2
  rw [hw2]
  refine V.perm List.perm_append_comm ?_
  show V D 7 A p l e room_1 s m args below meth c Q (k + 6) (n + 36) (ml cy adm Mm2 ++ wx cy sa o f2 adc nr Mc2) 321 [(5, vi (kSpan x z)), (4, vi i), (0, .ref b), (1, .ref (adc 0)), (2, .ref (adm 0)), (3, .ref o)] [vi y]
  refine V.istore C (lc2 := [(6, vi y), (5, vi (kSpan x z)), (4, vi i), (0, .ref b), (1, .ref (adc 0)), (2, .ref (adm 0)), (3, .ref o)]) dL_law_321 (by decide) rfl ?_
  refine V.aload_n C dL_law_323 5 rfl ?_
  refine V.perm List.perm_append_comm ?_
  refine V.callVc C (wr := wx cy sa o f2 adc nr Mc2) (As := []) (st := []) (b := adm 0) kV_L_103 (c_m_thrown l D cy sa hfl adm Mm2) 0 rfl rfl rfl rfl (Nat.le_of_ble_eq_true rfl) ⟨by decide, by decide⟩ ⟨by omega, by omega⟩ dL_law_324 (fun _ _ h => h.elim) (fun v3 w3 r3 => ?_)
  obtain ⟨rfl, hw3⟩ := r3
  rw [hw3, ht]
  refine V.perm List.perm_append_comm ?_
  show V D 7 A p l e room_1 s m args below meth c Q (k + 6) (n + 36) (ml cy adm Mm2 ++ wx cy sa o f2 adc nr Mc2) 327 [(6, vi y), (5, vi (kSpan x z)), (4, vi i), (0, .ref b), (1, .ref (adc 0)), (2, .ref (adm 0)), (3, .ref o)] [vi (kSpan x z)]
  refine V.iload C dL_law_327 1 rfl ?_
  refine V.icmp_eq C 334 dL_law_329 (by decide) ⟨by omega, by omega⟩ ⟨by omega, by omega⟩ (fun h329 => ?_) (fun h329 => (by exact absurd rfl h329))
  refine V.iload C dL_law_334 1 rfl ?_
  refine V.if_ne C 351 dL_law_336 (by decide) ⟨by omega, by omega⟩ (fun h336 => ?_) (fun h336 => ?_)
  · skip
    refine V.goto C 1757 dL_law_351 (by decide) ?_
    exact V.sub [2, 3, 4, 5, 6] rfl (kk _ _ (by omega) (by omega) f2 adc adm nr Mc2 Mm2 h td q rq nd rfl rfl (e1 h336) hm hcl)
  · skip
    refine V.aload_n C dL_law_339 6 rfl ?_
    refine V.iconst C dL_law_340 ?_
    refine V.lald C (v := R64 (ct (wk h) x (z + 1))) 16 rfl (by decide) (by decide) (by decide) (e0 h336).1 dL_law_341 ?_
    show V D 7 A p l e room_1 s m args below meth c Q (k + 6) (n + 36) (ml cy adm Mm2 ++ wx cy sa o f2 adc nr Mc2) 342 [(6, vi y), (5, vi (kSpan x z)), (4, vi i), (0, .ref b), (1, .ref (adc 0)), (2, .ref (adm 0)), (3, .ref o)] [.long (R64 (ct (wk h) x (z + 1)))]
    refine V.iload C dL_law_342 0 rfl ?_
    refine V.i2l C dL_law_344 ?_
    show V D 7 A p l e room_1 s m args below meth c Q (k + 6) (n + 36) (ml cy adm Mm2 ++ wx cy sa o f2 adc nr Mc2) 345 [(6, vi y), (5, vi (kSpan x z)), (4, vi i), (0, .ref b), (1, .ref (adc 0)), (2, .ref (adm 0)), (3, .ref o)] [.long (R64 y), .long (R64 (ct (wk h) x (z + 1)))]
    refine V.lcmpE C dL_law_345 (by rw [hy h336]) ?_
    show V D 7 A p l e room_1 s m args below meth c Q (k + 6) (n + 36) (ml cy adm Mm2 ++ wx cy sa o f2 adc nr Mc2) 346 [(6, vi y), (5, vi (kSpan x z)), (4, vi i), (0, .ref b), (1, .ref (adc 0)), (2, .ref (adm 0)), (3, .ref o)] [vi 0]
    refine V.if_eq C 351 dL_law_346 (by decide) ⟨by decide, by decide⟩ (fun h346 => ?_) (fun h346 => (by exact absurd h346 (by decide)))
    refine V.goto C 1757 dL_law_351 (by decide) ?_
    exact V.sub [2, 3, 4, 5, 6] rfl (kk _ _ (by omega) (by omega) f2 adc adm nr Mc2 Mm2 h td q rq nd rfl rfl (e0 h336).2 hm hcl)
set_option maxHeartbeats 4000000 in
set_option maxRecDepth 100000 in
theorem law_c3 {p : Program} {l : Launch} {e : Env} {s : State} {m : MethodId} {args : Array Value} {below : List Frame} {meth : Method} {c : Code} {D : va_G} {cy : Nat → ClassId} {sa : Nat → Addr} {A : Nat → Prop} {Q : State → Prop} (hfl : l.stackTraces = false) (C : Cx D cy sa RL cL_law 7 (some .boolean) A p l s m args meth c) {b L : Nat} {xs : Nat → Int32} (hX : va_X b L xs s s.heap) (hbl : b < s.heap.size) (hbA : ¬ A b) (hL : L ≤ 3584) {k n : Nat} (hk : k + 20 ≤ room_1.cells) (hn9 : n + 1000 ≤ room_1.slots) {o a1 a2 : Nat} {i : Int} (i0 : 0 ≤ i) (i1 : i + 7 ≤ (L : Int)) (kk : ∀ k2 n2 : Nat, k2 ≤ k + 20 → n2 ≤ n + 1000 → LV D cy sa A p l e s m args below meth c Q b o a1 a2 k2 n2 1757 [(4, vi i)] []) : LV D cy sa A p l e s m args below meth c Q b o a1 a2 k n 354 [(4, vi i)] [] := by
  intro f adc adm nr Mc Mm h td q rq nd rfl rfl hci hmi hcl
  obtain ⟨x, hx⟩ : ∃ y, y = (xs (i + 1).toNat).toInt := ⟨_, rfl⟩
  have rx : inR x := by rw [hx]; exact zI_inR _
  show V D 7 A p l e room_1 s m args below meth c Q k n (ml cy adm Mm ++ wx cy sa o f adc nr Mc) 354 [(4, vi i), (0, .ref b), (1, .ref (adc 0)), (2, .ref (adm 0)), (3, .ref o)] []
  refine V.aload_n C dL_law_354 2 rfl ?_
  refine V.aload_n C dL_law_355 1 rfl ?_
  refine V.iload C dL_law_356 0 rfl ?_
  refine V.iconst C dL_law_358 ?_
  refine V.iadd C dL_law_359 ?_
  refine V.sldE C hX hbl hbA (by omega) (v := x) (by omega) (by omega) hx dL_law_360 ?_
  refine V.aload_n C dL_law_361 4 rfl ?_
  refine V.callSX C (As := [.ref (adc 0), vi x, .ref o]) (st := []) (wr := ml cy adm Mm) kX_L_114 (l_pass l D cy sa hfl o f adc nr Mc h td q rq nd hci x rx) rfl rfl rfl (Nat.le_of_ble_eq_true rfl) ⟨by decide, by decide⟩ ⟨by omega, by omega⟩ dL_law_362 (fun v1 w1 r1 => ?_)
  obtain ⟨rfl, f2, Mc2, hw1, e0, e1⟩ := r1
  rw [hw1]
  show V D 7 A p l e room_1 s m args below meth c Q (k + 6) (n + 36) (ml cy adm Mm ++ wx cy sa o f2 adc nr Mc2) 365 [(4, vi i), (0, .ref b), (1, .ref (adc 0)), (2, .ref (adm 0)), (3, .ref o)] [vi (kPass td x)]
  have hkr := kPass_rng  td x
  refine V.istore C (lc2 := [(5, vi (kPass td x)), (4, vi i), (0, .ref b), (1, .ref (adc 0)), (2, .ref (adm 0)), (3, .ref o)]) dL_law_365 (by decide) rfl ?_
  refine V.aload_n C dL_law_367 4 rfl ?_
  refine V.aload_n C dL_law_368 2 rfl ?_
  refine V.iload C dL_law_369 1 rfl ?_
  refine V.iconst C dL_law_371 ?_
  refine V.iadd C dL_law_372 ?_
  refine V.sldE C hX hbl hbA (by omega) (v := x) (by omega) (by omega) hx dL_law_373 ?_
  refine V.perm List.perm_append_comm ?_
  refine V.callVc C (wr := wx cy sa o f2 adc nr Mc2) (As := [vi x]) (st := []) (b := adm 0) kV_L_116 (c_m_pass l D cy sa hfl adm Mm h td nr q rq hmi  x rx) 0 rfl rfl rfl rfl (Nat.le_of_ble_eq_true rfl) ⟨by decide, by decide⟩ ⟨by omega, by omega⟩ dL_law_374 (fun _ _ h => h.elim) (fun v2 w2 r2 => ?_)
  obtain ⟨y, rfl, hy, Mm2, hw2, ht, hm⟩ := r2
  rw [hw2]
  refine V.perm List.perm_append_comm ?_
  show V D 7 A p l e room_1 s m args below meth c Q (k + 6) (n + 36) (ml cy adm Mm2 ++ wx cy sa o f2 adc nr Mc2) 377 [(5, vi (kPass td x)), (4, vi i), (0, .ref b), (1, .ref (adc 0)), (2, .ref (adm 0)), (3, .ref o)] [vi y]
  refine V.istore C (lc2 := [(6, vi y), (5, vi (kPass td x)), (4, vi i), (0, .ref b), (1, .ref (adc 0)), (2, .ref (adm 0)), (3, .ref o)]) dL_law_377 (by decide) rfl ?_
  refine V.aload_n C dL_law_379 5 rfl ?_
  refine V.perm List.perm_append_comm ?_
  refine V.callVc C (wr := wx cy sa o f2 adc nr Mc2) (As := []) (st := []) (b := adm 0) kV_L_103 (c_m_thrown l D cy sa hfl adm Mm2) 0 rfl rfl rfl rfl (Nat.le_of_ble_eq_true rfl) ⟨by decide, by decide⟩ ⟨by omega, by omega⟩ dL_law_380 (fun _ _ h => h.elim) (fun v3 w3 r3 => ?_)
  obtain ⟨rfl, hw3⟩ := r3
  rw [hw3, ht]
  refine V.perm List.perm_append_comm ?_
  show V D 7 A p l e room_1 s m args below meth c Q (k + 6) (n + 36) (ml cy adm Mm2 ++ wx cy sa o f2 adc nr Mc2) 383 [(6, vi y), (5, vi (kPass td x)), (4, vi i), (0, .ref b), (1, .ref (adc 0)), (2, .ref (adm 0)), (3, .ref o)] [vi (kPass td x)]
  refine V.iload C dL_law_383 1 rfl ?_
  refine V.icmp_eq C 390 dL_law_385 (by decide) ⟨by omega, by omega⟩ ⟨by omega, by omega⟩ (fun h385 => ?_) (fun h385 => (by exact absurd rfl h385))
  refine V.iload C dL_law_390 1 rfl ?_
  refine V.if_ne C 407 dL_law_392 (by decide) ⟨by omega, by omega⟩ (fun h392 => ?_) (fun h392 => ?_)
  · skip
    refine V.goto C 1757 dL_law_407 (by decide) ?_
    exact V.sub [2, 3, 4, 5, 6] rfl (kk _ _ (by omega) (by omega) f2 adc adm nr Mc2 Mm2 h td q rq nd rfl rfl (e1 h392) (hm.2 h392) hcl)
  · skip
    refine V.aload_n C dL_law_395 6 rfl ?_
    refine V.iconst C dL_law_396 ?_
    refine V.lald C (v := R64 (td + x)) 16 rfl (by decide) (by decide) (by decide) (e0 h392).1 dL_law_397 ?_
    show V D 7 A p l e room_1 s m args below meth c Q (k + 6) (n + 36) (ml cy adm Mm2 ++ wx cy sa o f2 adc nr Mc2) 398 [(6, vi y), (5, vi (kPass td x)), (4, vi i), (0, .ref b), (1, .ref (adc 0)), (2, .ref (adm 0)), (3, .ref o)] [.long (R64 (td + x))]
    refine V.iload C dL_law_398 0 rfl ?_
    refine V.i2l C dL_law_400 ?_
    show V D 7 A p l e room_1 s m args below meth c Q (k + 6) (n + 36) (ml cy adm Mm2 ++ wx cy sa o f2 adc nr Mc2) 401 [(6, vi y), (5, vi (kPass td x)), (4, vi i), (0, .ref b), (1, .ref (adc 0)), (2, .ref (adm 0)), (3, .ref o)] [.long (R64 y), .long (R64 (td + x))]
    refine V.lcmpE C dL_law_401 (by rw [hy h392]) ?_
    show V D 7 A p l e room_1 s m args below meth c Q (k + 6) (n + 36) (ml cy adm Mm2 ++ wx cy sa o f2 adc nr Mc2) 402 [(6, vi y), (5, vi (kPass td x)), (4, vi i), (0, .ref b), (1, .ref (adc 0)), (2, .ref (adm 0)), (3, .ref o)] [vi 0]
    refine V.if_eq C 407 dL_law_402 (by decide) ⟨by decide, by decide⟩ (fun h402 => ?_) (fun h402 => (by exact absurd h402 (by decide)))
    refine V.goto C 1757 dL_law_407 (by decide) ?_
    exact V.sub [2, 3, 4, 5, 6] rfl (kk _ _ (by omega) (by omega) f2 adc adm nr Mc2 Mm2 _ _ _ _ _ rfl rfl (e0 h392).2 (hm.1 h392) hcl)
set_option maxHeartbeats 4000000 in
set_option maxRecDepth 100000 in
theorem law_c4 {p : Program} {l : Launch} {e : Env} {s : State} {m : MethodId} {args : Array Value} {below : List Frame} {meth : Method} {c : Code} {D : va_G} {cy : Nat → ClassId} {sa : Nat → Addr} {A : Nat → Prop} {Q : State → Prop} (hfl : l.stackTraces = false) (C : Cx D cy sa RL cL_law 7 (some .boolean) A p l s m args meth c) {b L : Nat} {xs : Nat → Int32} (hX : va_X b L xs s s.heap) (hbl : b < s.heap.size) (hbA : ¬ A b) (hL : L ≤ 3584) {k n : Nat} (hk : k + 20 ≤ room_1.cells) (hn9 : n + 1000 ≤ room_1.slots) {o a1 a2 : Nat} {i : Int} (i0 : 0 ≤ i) (i1 : i + 7 ≤ (L : Int)) (kk : ∀ k2 n2 : Nat, k2 ≤ k + 20 → n2 ≤ n + 1000 → LV D cy sa A p l e s m args below meth c Q b o a1 a2 k2 n2 1757 [(4, vi i)] []) : LV D cy sa A p l e s m args below meth c Q b o a1 a2 k n 410 [(4, vi i)] [] := by
  intro f adc adm nr Mc Mm h td q rq nd rfl rfl hci hmi hcl
  have rg : inR td := by have := hci.2.1; exact ⟨by omega, by omega⟩
  show V D 7 A p l e room_1 s m args below meth c Q k n (ml cy adm Mm ++ wx cy sa o f adc nr Mc) 410 [(4, vi i), (0, .ref b), (1, .ref (adc 0)), (2, .ref (adm 0)), (3, .ref o)] []
  refine V.aload_n C dL_law_410 2 rfl ?_
  refine V.perm (ws2 := (ml cy adm Mm ++ [(o, .inl (cy 3, 1, .inr (.inl f)))]) ++ cl cy (sa 100) adc nr Mc) (List.Perm.of_eq (List.append_assoc _ _ _).symm) ?_
  refine V.callVc (R := room_1) (k := k) (n := n) C (wr := ml cy adm Mm ++ [(o, .inl (cy 3, 1, .inr (.inl f)))]) (As := []) (st := []) (b := adc 0) kV_L_117 (c_today l D cy sa hfl adc nr Mc h td q rq nd hci) 0 cl_0 rfl rfl rfl (Nat.le_of_ble_eq_true rfl) ⟨by decide, by decide⟩ ⟨by omega, by omega⟩ dL_law_411 (fun _ _ h => h.elim) (fun v1 w1 r1 => ?_)
  obtain ⟨rfl, Mc2, hw1, hc2⟩ := r1
  rw [hw1]
  refine V.perm (List.Perm.of_eq (List.append_assoc _ _ _)) ?_
  show V D 7 A p l e room_1 s m args below meth c Q (k + 6) (n + 36) (ml cy adm Mm ++ wx cy sa o f adc nr Mc2) 414 [(4, vi i), (0, .ref b), (1, .ref (adc 0)), (2, .ref (adm 0)), (3, .ref o)] [vi td]
  refine V.aload_n C dL_law_414 3 rfl ?_
  refine V.perm List.perm_append_comm ?_
  refine V.callVc C (wr := wx cy sa o f adc nr Mc2) (As := []) (st := [vi td]) (b := adm 0) kV_L_120 (c_m_today l D cy sa hfl adm Mm h td nr q rq hmi  ) 0 rfl rfl rfl rfl (Nat.le_of_ble_eq_true rfl) ⟨by decide, by decide⟩ ⟨by omega, by omega⟩ dL_law_415 (fun _ _ h => h.elim) (fun v2 w2 r2 => ?_)
  obtain ⟨rfl, Mm2, hw2, hm⟩ := r2
  rw [hw2]
  refine V.perm List.perm_append_comm ?_
  show V D 7 A p l e room_1 s m args below meth c Q (k + 6) (n + 36) (ml cy adm Mm2 ++ wx cy sa o f adc nr Mc2) 418 [(4, vi i), (0, .ref b), (1, .ref (adc 0)), (2, .ref (adm 0)), (3, .ref o)] [vi td, vi td]
  refine V.icmp_eq C 1757 dL_law_418 (by decide) rg rg (fun h418 => ?_) (fun h418 => (by exact absurd rfl h418))
  exact V.sub [0, 1, 2, 3, 4] rfl (kk _ _ (by omega) (by omega) f adc adm nr Mc2 Mm2 h td q rq nd rfl rfl hc2 hm hcl)
set_option maxHeartbeats 4000000 in
set_option maxRecDepth 100000 in
theorem law_c5 {p : Program} {l : Launch} {e : Env} {s : State} {m : MethodId} {args : Array Value} {below : List Frame} {meth : Method} {c : Code} {D : va_G} {cy : Nat → ClassId} {sa : Nat → Addr} {A : Nat → Prop} {Q : State → Prop} (hfl : l.stackTraces = false) (C : Cx D cy sa RL cL_law 7 (some .boolean) A p l s m args meth c) {b L : Nat} {xs : Nat → Int32} (hX : va_X b L xs s s.heap) (hbl : b < s.heap.size) (hbA : ¬ A b) (hL : L ≤ 3584) {k n : Nat} (hk : k + 20 ≤ room_1.cells) (hn9 : n + 1000 ≤ room_1.slots) {o a1 a2 : Nat} {i : Int} (i0 : 0 ≤ i) (i1 : i + 7 ≤ (L : Int)) (kk : ∀ k2 n2 : Nat, k2 ≤ k + 20 → n2 ≤ n + 1000 → LV D cy sa A p l e s m args below meth c Q b o a1 a2 k2 n2 1757 [(4, vi i)] []) : LV D cy sa A p l e s m args below meth c Q b o a1 a2 k n 423 [(4, vi i)] [] := by
  intro f adc adm nr Mc Mm h td q rq nd rfl rfl hci hmi hcl
  obtain ⟨kd, hkd⟩ : ∃ y, y = (xs (i + 1).toNat).toInt := ⟨_, rfl⟩
  have rkd : inR kd := by rw [hkd]; exact zI_inR _
  obtain ⟨nn, hnn⟩ : ∃ y, y = (xs (i + 2).toNat).toInt := ⟨_, rfl⟩
  have rnn : inR nn := by rw [hnn]; exact zI_inR _
  obtain ⟨sh, hsh⟩ : ∃ y, y = (xs (i + 3).toNat).toInt := ⟨_, rfl⟩
  have rsh : inR sh := by rw [hsh]; exact zI_inR _
  obtain ⟨fs, hfs⟩ : ∃ y, y = (xs (i + 4).toNat).toInt := ⟨_, rfl⟩
  have rfs : inR fs := by rw [hfs]; exact zI_inR _
  obtain ⟨ef, hef⟩ : ∃ y, y = (xs (i + 5).toNat).toInt := ⟨_, rfl⟩
  have ref : inR ef := by rw [hef]; exact zI_inR _
  obtain ⟨va, hva⟩ : ∃ y, y = (xs (i + 6).toNat).toInt := ⟨_, rfl⟩
  have rva : inR va := by rw [hva]; exact zI_inR _
  show V D 7 A p l e room_1 s m args below meth c Q k n (ml cy adm Mm ++ wx cy sa o f adc nr Mc) 423 [(4, vi i), (0, .ref b), (1, .ref (adc 0)), (2, .ref (adm 0)), (3, .ref o)] []
  refine V.aload_n C dL_law_423 2 rfl ?_
  refine V.aload_n C dL_law_424 1 rfl ?_
  refine V.iload C dL_law_425 0 rfl ?_
  refine V.iconst C dL_law_427 ?_
  refine V.iadd C dL_law_428 ?_
  refine V.sldE C hX hbl hbA (by omega) (v := kd) (by omega) (by omega) hkd dL_law_429 ?_
  refine V.aload_n C dL_law_430 1 rfl ?_
  refine V.iload C dL_law_431 0 rfl ?_
  refine V.iconst C dL_law_433 ?_
  refine V.iadd C dL_law_434 ?_
  refine V.sldE C hX hbl hbA (by omega) (v := nn) (by omega) (by omega) hnn dL_law_435 ?_
  refine V.aload_n C dL_law_436 1 rfl ?_
  refine V.iload C dL_law_437 0 rfl ?_
  refine V.iconst C dL_law_439 ?_
  refine V.iadd C dL_law_440 ?_
  refine V.sldE C hX hbl hbA (by omega) (v := sh) (by omega) (by omega) hsh dL_law_441 ?_
  refine V.aload_n C dL_law_442 1 rfl ?_
  refine V.iload C dL_law_443 0 rfl ?_
  refine V.iconst C dL_law_445 ?_
  refine V.iadd C dL_law_446 ?_
  refine V.sldE C hX hbl hbA (by omega) (v := fs) (by omega) (by omega) hfs dL_law_447 ?_
  refine V.aload_n C dL_law_448 1 rfl ?_
  refine V.iload C dL_law_449 0 rfl ?_
  refine V.iconst C dL_law_451 ?_
  refine V.iadd C dL_law_452 ?_
  refine V.sldE C hX hbl hbA (by omega) (v := ef) (by omega) (by omega) hef dL_law_453 ?_
  refine V.aload_n C dL_law_454 1 rfl ?_
  refine V.iload C dL_law_455 0 rfl ?_
  refine V.bipush C dL_law_457 (by decide) ?_
  refine V.iadd C dL_law_459 ?_
  refine V.sldE C hX hbl hbA (by omega) (v := va) (by omega) (by omega) hva dL_law_460 ?_
  refine V.aload_n C dL_law_461 4 rfl ?_
  refine V.callSX C (As := [.ref (adc 0), vi kd, vi nn, vi sh, vi fs, vi ef, vi va, .ref o]) (st := []) (wr := ml cy adm Mm) kX_L_121 (l_addRule l D cy sa hfl o f adc nr Mc h td q rq nd hci kd rkd nn rnn sh rsh fs rfs ef ref va rva) rfl rfl rfl (Nat.le_of_ble_eq_true rfl) ⟨by decide, by decide⟩ ⟨by omega, by omega⟩ dL_law_462 (fun v1 w1 r1 => ?_)
  obtain ⟨rfl, f2, adc2, nr2, Mc2, hw1, ha2, e0, e1⟩ := r1
  rw [hw1]
  show V D 7 A p l e room_1 s m args below meth c Q (k + 16) (n + 900) (ml cy adm Mm ++ wx cy sa o f2 adc2 nr2 Mc2) 465 [(4, vi i), (0, .ref b), (1, .ref (adc 0)), (2, .ref (adm 0)), (3, .ref o)] [vi (kAdd nr kd nn sh fs ef va)]
  have hkr := kAdd_rng  nr kd nn sh fs ef va
  refine V.istore C (lc2 := [(5, vi (kAdd nr kd nn sh fs ef va)), (4, vi i), (0, .ref b), (1, .ref (adc 0)), (2, .ref (adm 0)), (3, .ref o)]) dL_law_465 (by decide) rfl ?_
  refine V.aload_n C dL_law_467 4 rfl ?_
  refine V.aload_n C dL_law_468 2 rfl ?_
  refine V.iload C dL_law_469 1 rfl ?_
  refine V.iconst C dL_law_471 ?_
  refine V.iadd C dL_law_472 ?_
  refine V.sldE C hX hbl hbA (by omega) (v := kd) (by omega) (by omega) hkd dL_law_473 ?_
  refine V.aload_n C dL_law_474 2 rfl ?_
  refine V.iload C dL_law_475 1 rfl ?_
  refine V.iconst C dL_law_477 ?_
  refine V.iadd C dL_law_478 ?_
  refine V.sldE C hX hbl hbA (by omega) (v := nn) (by omega) (by omega) hnn dL_law_479 ?_
  refine V.aload_n C dL_law_480 2 rfl ?_
  refine V.iload C dL_law_481 1 rfl ?_
  refine V.iconst C dL_law_483 ?_
  refine V.iadd C dL_law_484 ?_
  refine V.sldE C hX hbl hbA (by omega) (v := sh) (by omega) (by omega) hsh dL_law_485 ?_
  refine V.aload_n C dL_law_486 2 rfl ?_
  refine V.iload C dL_law_487 1 rfl ?_
  refine V.iconst C dL_law_489 ?_
  refine V.iadd C dL_law_490 ?_
  refine V.sldE C hX hbl hbA (by omega) (v := fs) (by omega) (by omega) hfs dL_law_491 ?_
  refine V.aload_n C dL_law_492 2 rfl ?_
  refine V.iload C dL_law_493 1 rfl ?_
  refine V.iconst C dL_law_495 ?_
  refine V.iadd C dL_law_496 ?_
  refine V.sldE C hX hbl hbA (by omega) (v := ef) (by omega) (by omega) hef dL_law_497 ?_
  refine V.aload_n C dL_law_498 2 rfl ?_
  refine V.iload C dL_law_499 1 rfl ?_
  refine V.bipush C dL_law_501 (by decide) ?_
  refine V.iadd C dL_law_503 ?_
  refine V.sldE C hX hbl hbA (by omega) (v := va) (by omega) (by omega) hva dL_law_504 ?_
  refine V.perm List.perm_append_comm ?_
  refine V.callVc C (wr := wx cy sa o f2 adc2 nr2 Mc2) (As := [vi kd, vi nn, vi sh, vi fs, vi ef, vi va]) (st := []) (b := adm 0) kV_L_124 (c_m_addRule l D cy sa hfl adm Mm h td nr q rq hmi (fun i hi j hj => ((hcl i hi).1 j hj).1) kd rkd nn rnn sh rsh fs rfs ef ref va rva) 0 rfl rfl rfl rfl (Nat.le_of_ble_eq_true rfl) ⟨by decide, by decide⟩ ⟨by omega, by omega⟩ dL_law_505 (fun _ _ h => h.elim) (fun v2 w2 r2 => ?_)
  obtain ⟨y, rfl, hy, Mm2, hw2, ht, hm⟩ := r2
  rw [hw2]
  refine V.perm List.perm_append_comm ?_
  show V D 7 A p l e room_1 s m args below meth c Q (k + 16) (n + 900) (ml cy adm Mm2 ++ wx cy sa o f2 adc2 nr2 Mc2) 508 [(5, vi (kAdd nr kd nn sh fs ef va)), (4, vi i), (0, .ref b), (1, .ref (adc 0)), (2, .ref (adm 0)), (3, .ref o)] [vi y]
  refine V.istore C (lc2 := [(6, vi y), (5, vi (kAdd nr kd nn sh fs ef va)), (4, vi i), (0, .ref b), (1, .ref (adc 0)), (2, .ref (adm 0)), (3, .ref o)]) dL_law_508 (by decide) rfl ?_
  refine V.aload_n C dL_law_510 5 rfl ?_
  refine V.perm List.perm_append_comm ?_
  refine V.callVc C (wr := wx cy sa o f2 adc2 nr2 Mc2) (As := []) (st := []) (b := adm 0) kV_L_103 (c_m_thrown l D cy sa hfl adm Mm2) 0 rfl rfl rfl rfl (Nat.le_of_ble_eq_true rfl) ⟨by decide, by decide⟩ ⟨by omega, by omega⟩ dL_law_511 (fun _ _ h => h.elim) (fun v3 w3 r3 => ?_)
  obtain ⟨rfl, hw3⟩ := r3
  rw [hw3, ht]
  refine V.perm List.perm_append_comm ?_
  show V D 7 A p l e room_1 s m args below meth c Q (k + 16) (n + 900) (ml cy adm Mm2 ++ wx cy sa o f2 adc2 nr2 Mc2) 514 [(6, vi y), (5, vi (kAdd nr kd nn sh fs ef va)), (4, vi i), (0, .ref b), (1, .ref (adc 0)), (2, .ref (adm 0)), (3, .ref o)] [vi (kAdd nr kd nn sh fs ef va)]
  refine V.iload C dL_law_514 1 rfl ?_
  refine V.icmp_eq C 521 dL_law_516 (by decide) ⟨by omega, by omega⟩ ⟨by omega, by omega⟩ (fun h516 => ?_) (fun h516 => (by exact absurd rfl h516))
  refine V.iload C dL_law_521 1 rfl ?_
  refine V.if_ne C 538 dL_law_523 (by decide) ⟨by omega, by omega⟩ (fun h523 => ?_) (fun h523 => ?_)
  · skip
    refine V.goto C 1757 dL_law_538 (by decide) ?_
    exact V.sub [2, 3, 4, 5, 6] rfl (kk _ _ (by omega) (by omega) f2 adc2 adm nr2 Mc2 Mm2 h td q rq nd ha2 rfl (e1 h523).2 (by have g := hm.2 h523; rwa [← (e1 h523).1] at g) (by rw [(e1 h523).1]; exact hcl))
  · skip
    refine V.aload_n C dL_law_526 6 rfl ?_
    refine V.iconst C dL_law_527 ?_
    refine V.lald C (v := R64 ((nr : Int))) 16 rfl (by decide) (by decide) (by decide) (e0 h523).1 dL_law_528 ?_
    show V D 7 A p l e room_1 s m args below meth c Q (k + 16) (n + 900) (ml cy adm Mm2 ++ wx cy sa o f2 adc2 nr2 Mc2) 529 [(6, vi y), (5, vi (kAdd nr kd nn sh fs ef va)), (4, vi i), (0, .ref b), (1, .ref (adc 0)), (2, .ref (adm 0)), (3, .ref o)] [.long (R64 ((nr : Int)))]
    refine V.iload C dL_law_529 0 rfl ?_
    refine V.i2l C dL_law_531 ?_
    show V D 7 A p l e room_1 s m args below meth c Q (k + 16) (n + 900) (ml cy adm Mm2 ++ wx cy sa o f2 adc2 nr2 Mc2) 532 [(6, vi y), (5, vi (kAdd nr kd nn sh fs ef va)), (4, vi i), (0, .ref b), (1, .ref (adc 0)), (2, .ref (adm 0)), (3, .ref o)] [.long (R64 y), .long (R64 ((nr : Int)))]
    refine V.lcmpE C dL_law_532 (by rw [hy h523]) ?_
    show V D 7 A p l e room_1 s m args below meth c Q (k + 16) (n + 900) (ml cy adm Mm2 ++ wx cy sa o f2 adc2 nr2 Mc2) 533 [(6, vi y), (5, vi (kAdd nr kd nn sh fs ef va)), (4, vi i), (0, .ref b), (1, .ref (adc 0)), (2, .ref (adm 0)), (3, .ref o)] [vi 0]
    refine V.if_eq C 538 dL_law_533 (by decide) ⟨by decide, by decide⟩ (fun h533 => ?_) (fun h533 => (by exact absurd h533 (by decide)))
    refine V.goto C 1757 dL_law_538 (by decide) ?_
    exact V.sub [2, 3, 4, 5, 6] rfl (kk _ _ (by omega) (by omega) f2 adc2 adm nr2 Mc2 Mm2 h td _ _ _ ha2 rfl (e0 h523).2.2 (by have g := hm.1 h523; rwa [← (e0 h523).2.1] at g) (by rw [(e0 h523).2.1]; exact hcl.add))
set_option maxHeartbeats 4000000 in
set_option maxRecDepth 100000 in
theorem law_c6 {p : Program} {l : Launch} {e : Env} {s : State} {m : MethodId} {args : Array Value} {below : List Frame} {meth : Method} {c : Code} {D : va_G} {cy : Nat → ClassId} {sa : Nat → Addr} {A : Nat → Prop} {Q : State → Prop} (hfl : l.stackTraces = false) (C : Cx D cy sa RL cL_law 7 (some .boolean) A p l s m args meth c) {b L : Nat} {xs : Nat → Int32} (hX : va_X b L xs s s.heap) (hbl : b < s.heap.size) (hbA : ¬ A b) (hL : L ≤ 3584) {k n : Nat} (hk : k + 20 ≤ room_1.cells) (hn9 : n + 1000 ≤ room_1.slots) {o a1 a2 : Nat} {i : Int} (i0 : 0 ≤ i) (i1 : i + 7 ≤ (L : Int)) (kk : ∀ k2 n2 : Nat, k2 ≤ k + 20 → n2 ≤ n + 1000 → LV D cy sa A p l e s m args below meth c Q b o a1 a2 k2 n2 1757 [(4, vi i)] []) : LV D cy sa A p l e s m args below meth c Q b o a1 a2 k n 541 [(4, vi i)] [] := by
  intro f adc adm nr Mc Mm h td q rq nd rfl rfl hci hmi hcl
  obtain ⟨x, hx⟩ : ∃ y, y = (xs (i + 1).toNat).toInt := ⟨_, rfl⟩
  have rx : inR x := by rw [hx]; exact zI_inR _
  obtain ⟨z, hz⟩ : ∃ y, y = (xs (i + 2).toNat).toInt := ⟨_, rfl⟩
  have rz : inR z := by rw [hz]; exact zI_inR _
  show V D 7 A p l e room_1 s m args below meth c Q k n (ml cy adm Mm ++ wx cy sa o f adc nr Mc) 541 [(4, vi i), (0, .ref b), (1, .ref (adc 0)), (2, .ref (adm 0)), (3, .ref o)] []
  refine V.aload_n C dL_law_541 2 rfl ?_
  refine V.aload_n C dL_law_542 1 rfl ?_
  refine V.iload C dL_law_543 0 rfl ?_
  refine V.iconst C dL_law_545 ?_
  refine V.iadd C dL_law_546 ?_
  refine V.sldE C hX hbl hbA (by omega) (v := x) (by omega) (by omega) hx dL_law_547 ?_
  refine V.aload_n C dL_law_548 1 rfl ?_
  refine V.iload C dL_law_549 0 rfl ?_
  refine V.iconst C dL_law_551 ?_
  refine V.iadd C dL_law_552 ?_
  refine V.sldE C hX hbl hbA (by omega) (v := z) (by omega) (by omega) hz dL_law_553 ?_
  refine V.aload_n C dL_law_554 4 rfl ?_
  refine V.callSX C (As := [.ref (adc 0), vi x, vi z, .ref o]) (st := []) (wr := ml cy adm Mm) kX_L_125 (l_setShift l D cy sa hfl o f adc nr Mc h td q rq nd hci x rx z rz) rfl rfl rfl (Nat.le_of_ble_eq_true rfl) ⟨by decide, by decide⟩ ⟨by omega, by omega⟩ dL_law_555 (fun v1 w1 r1 => ?_)
  obtain ⟨rfl, f2, Mc2, hw1, e0, e1⟩ := r1
  rw [hw1]
  show V D 7 A p l e room_1 s m args below meth c Q (k + 6) (n + 36) (ml cy adm Mm ++ wx cy sa o f2 adc nr Mc2) 558 [(4, vi i), (0, .ref b), (1, .ref (adc 0)), (2, .ref (adm 0)), (3, .ref o)] [vi (kShift nr x z)]
  have hkr := kShift_rng  nr x z
  refine V.istore C (lc2 := [(5, vi (kShift nr x z)), (4, vi i), (0, .ref b), (1, .ref (adc 0)), (2, .ref (adm 0)), (3, .ref o)]) dL_law_558 (by decide) rfl ?_
  refine V.aload_n C dL_law_560 4 rfl ?_
  refine V.aload_n C dL_law_561 2 rfl ?_
  refine V.iload C dL_law_562 1 rfl ?_
  refine V.iconst C dL_law_564 ?_
  refine V.iadd C dL_law_565 ?_
  refine V.sldE C hX hbl hbA (by omega) (v := x) (by omega) (by omega) hx dL_law_566 ?_
  refine V.aload_n C dL_law_567 2 rfl ?_
  refine V.iload C dL_law_568 1 rfl ?_
  refine V.iconst C dL_law_570 ?_
  refine V.iadd C dL_law_571 ?_
  refine V.sldE C hX hbl hbA (by omega) (v := z) (by omega) (by omega) hz dL_law_572 ?_
  refine V.perm List.perm_append_comm ?_
  refine V.callVc C (wr := wx cy sa o f2 adc nr Mc2) (As := [vi x, vi z]) (st := []) (b := adm 0) kV_L_127 (c_m_setShift l D cy sa hfl adm Mm h td nr q rq hmi  x rx z rz) 0 rfl rfl rfl rfl (Nat.le_of_ble_eq_true rfl) ⟨by decide, by decide⟩ ⟨by omega, by omega⟩ dL_law_573 (fun _ _ h => h.elim) (fun v2 w2 r2 => ?_)
  obtain ⟨y, rfl, hy, Mm2, hw2, ht, hm⟩ := r2
  rw [hw2]
  refine V.perm List.perm_append_comm ?_
  show V D 7 A p l e room_1 s m args below meth c Q (k + 6) (n + 36) (ml cy adm Mm2 ++ wx cy sa o f2 adc nr Mc2) 576 [(5, vi (kShift nr x z)), (4, vi i), (0, .ref b), (1, .ref (adc 0)), (2, .ref (adm 0)), (3, .ref o)] [vi y]
  refine V.istore C (lc2 := [(6, vi y), (5, vi (kShift nr x z)), (4, vi i), (0, .ref b), (1, .ref (adc 0)), (2, .ref (adm 0)), (3, .ref o)]) dL_law_576 (by decide) rfl ?_
  refine V.aload_n C dL_law_578 5 rfl ?_
  refine V.perm List.perm_append_comm ?_
  refine V.callVc C (wr := wx cy sa o f2 adc nr Mc2) (As := []) (st := []) (b := adm 0) kV_L_103 (c_m_thrown l D cy sa hfl adm Mm2) 0 rfl rfl rfl rfl (Nat.le_of_ble_eq_true rfl) ⟨by decide, by decide⟩ ⟨by omega, by omega⟩ dL_law_579 (fun _ _ h => h.elim) (fun v3 w3 r3 => ?_)
  obtain ⟨rfl, hw3⟩ := r3
  rw [hw3, ht]
  refine V.perm List.perm_append_comm ?_
  show V D 7 A p l e room_1 s m args below meth c Q (k + 6) (n + 36) (ml cy adm Mm2 ++ wx cy sa o f2 adc nr Mc2) 582 [(6, vi y), (5, vi (kShift nr x z)), (4, vi i), (0, .ref b), (1, .ref (adc 0)), (2, .ref (adm 0)), (3, .ref o)] [vi (kShift nr x z)]
  refine V.iload C dL_law_582 1 rfl ?_
  refine V.icmp_eq C 589 dL_law_584 (by decide) ⟨by omega, by omega⟩ ⟨by omega, by omega⟩ (fun h584 => ?_) (fun h584 => (by exact absurd rfl h584))
  refine V.iload C dL_law_589 1 rfl ?_
  refine V.if_ne C 606 dL_law_591 (by decide) ⟨by omega, by omega⟩ (fun h591 => ?_) (fun h591 => ?_)
  · skip
    refine V.goto C 1757 dL_law_606 (by decide) ?_
    exact V.sub [2, 3, 4, 5, 6] rfl (kk _ _ (by omega) (by omega) f2 adc adm nr Mc2 Mm2 h td q rq nd rfl rfl (e1 h591) (hm.2 h591) hcl)
  · skip
    refine V.aload_n C dL_law_594 6 rfl ?_
    refine V.iconst C dL_law_595 ?_
    refine V.lald C (v := R64 (q x.toNat 5)) 16 rfl (by decide) (by decide) (by decide) (e0 h591).1 dL_law_596 ?_
    show V D 7 A p l e room_1 s m args below meth c Q (k + 6) (n + 36) (ml cy adm Mm2 ++ wx cy sa o f2 adc nr Mc2) 597 [(6, vi y), (5, vi (kShift nr x z)), (4, vi i), (0, .ref b), (1, .ref (adc 0)), (2, .ref (adm 0)), (3, .ref o)] [.long (R64 (q x.toNat 5))]
    refine V.iload C dL_law_597 0 rfl ?_
    refine V.i2l C dL_law_599 ?_
    show V D 7 A p l e room_1 s m args below meth c Q (k + 6) (n + 36) (ml cy adm Mm2 ++ wx cy sa o f2 adc nr Mc2) 600 [(6, vi y), (5, vi (kShift nr x z)), (4, vi i), (0, .ref b), (1, .ref (adc 0)), (2, .ref (adm 0)), (3, .ref o)] [.long (R64 y), .long (R64 (q x.toNat 5))]
    refine V.lcmpE C dL_law_600 (by rw [hy h591]) ?_
    show V D 7 A p l e room_1 s m args below meth c Q (k + 6) (n + 36) (ml cy adm Mm2 ++ wx cy sa o f2 adc nr Mc2) 601 [(6, vi y), (5, vi (kShift nr x z)), (4, vi i), (0, .ref b), (1, .ref (adc 0)), (2, .ref (adm 0)), (3, .ref o)] [vi 0]
    refine V.if_eq C 606 dL_law_601 (by decide) ⟨by decide, by decide⟩ (fun h601 => ?_) (fun h601 => (by exact absurd h601 (by decide)))
    refine V.goto C 1757 dL_law_606 (by decide) ?_
    exact V.sub [2, 3, 4, 5, 6] rfl (kk _ _ (by omega) (by omega) f2 adc adm nr Mc2 Mm2 _ _ _ _ _ rfl rfl (e0 h591).2 (hm.1 h591) hcl)
set_option maxHeartbeats 4000000 in
set_option maxRecDepth 100000 in
theorem law_c7 {p : Program} {l : Launch} {e : Env} {s : State} {m : MethodId} {args : Array Value} {below : List Frame} {meth : Method} {c : Code} {D : va_G} {cy : Nat → ClassId} {sa : Nat → Addr} {A : Nat → Prop} {Q : State → Prop} (hfl : l.stackTraces = false) (C : Cx D cy sa RL cL_law 7 (some .boolean) A p l s m args meth c) {b L : Nat} {xs : Nat → Int32} (hX : va_X b L xs s s.heap) (hbl : b < s.heap.size) (hbA : ¬ A b) (hL : L ≤ 3584) {k n : Nat} (hk : k + 20 ≤ room_1.cells) (hn9 : n + 1000 ≤ room_1.slots) {o a1 a2 : Nat} {i : Int} (i0 : 0 ≤ i) (i1 : i + 7 ≤ (L : Int)) (kk : ∀ k2 n2 : Nat, k2 ≤ k + 20 → n2 ≤ n + 1000 → LV D cy sa A p l e s m args below meth c Q b o a1 a2 k2 n2 1757 [(4, vi i)] []) : LV D cy sa A p l e s m args below meth c Q b o a1 a2 k n 609 [(4, vi i)] [] := by
  intro f adc adm nr Mc Mm h td q rq nd rfl rfl hci hmi hcl
  obtain ⟨x, hx⟩ : ∃ y, y = (xs (i + 1).toNat).toInt := ⟨_, rfl⟩
  have rx : inR x := by rw [hx]; exact zI_inR _
  obtain ⟨z, hz⟩ : ∃ y, y = (xs (i + 2).toNat).toInt := ⟨_, rfl⟩
  have rz : inR z := by rw [hz]; exact zI_inR _
  show V D 7 A p l e room_1 s m args below meth c Q k n (ml cy adm Mm ++ wx cy sa o f adc nr Mc) 609 [(4, vi i), (0, .ref b), (1, .ref (adc 0)), (2, .ref (adm 0)), (3, .ref o)] []
  refine V.aload_n C dL_law_609 2 rfl ?_
  refine V.aload_n C dL_law_610 1 rfl ?_
  refine V.iload C dL_law_611 0 rfl ?_
  refine V.iconst C dL_law_613 ?_
  refine V.iadd C dL_law_614 ?_
  refine V.sldE C hX hbl hbA (by omega) (v := x) (by omega) (by omega) hx dL_law_615 ?_
  refine V.aload_n C dL_law_616 1 rfl ?_
  refine V.iload C dL_law_617 0 rfl ?_
  refine V.iconst C dL_law_619 ?_
  refine V.iadd C dL_law_620 ?_
  refine V.sldE C hX hbl hbA (by omega) (v := z) (by omega) (by omega) hz dL_law_621 ?_
  refine V.aload_n C dL_law_622 4 rfl ?_
  refine V.callSX C (As := [.ref (adc 0), vi x, vi z, .ref o]) (st := []) (wr := ml cy adm Mm) kX_L_128 (l_require l D cy sa hfl o f adc nr Mc h td q rq nd hci x rx z rz) rfl rfl rfl (Nat.le_of_ble_eq_true rfl) ⟨by decide, by decide⟩ ⟨by omega, by omega⟩ dL_law_623 (fun v1 w1 r1 => ?_)
  obtain ⟨rfl, f2, Mc2, hw1, e0, e1⟩ := r1
  rw [hw1]
  show V D 7 A p l e room_1 s m args below meth c Q (k + 6) (n + 36) (ml cy adm Mm ++ wx cy sa o f2 adc nr Mc2) 626 [(4, vi i), (0, .ref b), (1, .ref (adc 0)), (2, .ref (adm 0)), (3, .ref o)] [vi (kReq nr nd x z)]
  have hkr := kReq_rng  nr nd x z
  refine V.istore C (lc2 := [(5, vi (kReq nr nd x z)), (4, vi i), (0, .ref b), (1, .ref (adc 0)), (2, .ref (adm 0)), (3, .ref o)]) dL_law_626 (by decide) rfl ?_
  refine V.aload_n C dL_law_628 4 rfl ?_
  refine V.aload_n C dL_law_629 2 rfl ?_
  refine V.iload C dL_law_630 1 rfl ?_
  refine V.iconst C dL_law_632 ?_
  refine V.iadd C dL_law_633 ?_
  refine V.sldE C hX hbl hbA (by omega) (v := x) (by omega) (by omega) hx dL_law_634 ?_
  refine V.aload_n C dL_law_635 2 rfl ?_
  refine V.iload C dL_law_636 1 rfl ?_
  refine V.iconst C dL_law_638 ?_
  refine V.iadd C dL_law_639 ?_
  refine V.sldE C hX hbl hbA (by omega) (v := z) (by omega) (by omega) hz dL_law_640 ?_
  refine V.perm List.perm_append_comm ?_
  refine V.callVc C (wr := wx cy sa o f2 adc nr Mc2) (As := [vi x, vi z]) (st := []) (b := adm 0) kV_L_130 (c_m_require l D cy sa hfl adm Mm h td nr q rq hmi nd hcl x rx z rz) 0 rfl rfl rfl rfl (Nat.le_of_ble_eq_true rfl) ⟨by decide, by decide⟩ ⟨by omega, by omega⟩ dL_law_641 (fun _ _ h => h.elim) (fun v2 w2 r2 => ?_)
  obtain ⟨y, rfl, hy, Mm2, hw2, ht, hm⟩ := r2
  rw [hw2]
  refine V.perm List.perm_append_comm ?_
  show V D 7 A p l e room_1 s m args below meth c Q (k + 6) (n + 36) (ml cy adm Mm2 ++ wx cy sa o f2 adc nr Mc2) 644 [(5, vi (kReq nr nd x z)), (4, vi i), (0, .ref b), (1, .ref (adc 0)), (2, .ref (adm 0)), (3, .ref o)] [vi (bI y)]
  refine V.istore C (lc2 := [(6, vi (bI y)), (5, vi (kReq nr nd x z)), (4, vi i), (0, .ref b), (1, .ref (adc 0)), (2, .ref (adm 0)), (3, .ref o)]) dL_law_644 (by decide) rfl ?_
  refine V.aload_n C dL_law_646 5 rfl ?_
  refine V.perm List.perm_append_comm ?_
  refine V.callVc C (wr := wx cy sa o f2 adc nr Mc2) (As := []) (st := []) (b := adm 0) kV_L_103 (c_m_thrown l D cy sa hfl adm Mm2) 0 rfl rfl rfl rfl (Nat.le_of_ble_eq_true rfl) ⟨by decide, by decide⟩ ⟨by omega, by omega⟩ dL_law_647 (fun _ _ h => h.elim) (fun v3 w3 r3 => ?_)
  obtain ⟨rfl, hw3⟩ := r3
  rw [hw3, ht]
  refine V.perm List.perm_append_comm ?_
  show V D 7 A p l e room_1 s m args below meth c Q (k + 6) (n + 36) (ml cy adm Mm2 ++ wx cy sa o f2 adc nr Mc2) 650 [(6, vi (bI y)), (5, vi (kReq nr nd x z)), (4, vi i), (0, .ref b), (1, .ref (adc 0)), (2, .ref (adm 0)), (3, .ref o)] [vi (kReq nr nd x z)]
  refine V.iload C dL_law_650 1 rfl ?_
  refine V.icmp_eq C 657 dL_law_652 (by decide) ⟨by omega, by omega⟩ ⟨by omega, by omega⟩ (fun h652 => ?_) (fun h652 => (by exact absurd rfl h652))
  refine V.iload C dL_law_657 1 rfl ?_
  refine V.if_ne C 681 dL_law_659 (by decide) ⟨by omega, by omega⟩ (fun h659 => ?_) (fun h659 => ?_)
  · skip
    refine V.goto C 1757 dL_law_681 (by decide) ?_
    exact V.sub [2, 3, 4, 5, 6] rfl (kk _ _ (by omega) (by omega) f2 adc adm nr Mc2 Mm2 h td q rq nd rfl rfl (e1 h659) (hm.2 h659) hcl)
  · skip
    refine V.aload_n C dL_law_662 6 rfl ?_
    refine V.iconst C dL_law_663 ?_
    refine V.lald C (v := L64 (!(rq x.toNat).testBit z.toNat)) 16 rfl (by decide) (by decide) (by decide) (e0 h659).1 dL_law_664 ?_
    show V D 7 A p l e room_1 s m args below meth c Q (k + 6) (n + 36) (ml cy adm Mm2 ++ wx cy sa o f2 adc nr Mc2) 665 [(6, vi (bI y)), (5, vi (kReq nr nd x z)), (4, vi i), (0, .ref b), (1, .ref (adc 0)), (2, .ref (adm 0)), (3, .ref o)] [.long (L64 (!(rq x.toNat).testBit z.toNat))]
    refine V.iload C dL_law_665 0 rfl ?_
    refine V.if_eqB C 674 dL_law_667 (by decide) (fun h667 => ?_) (fun h667 => ?_)
    · skip
      refine V.lconst C (v := 0) dL_law_674 rfl ?_
      show V D 7 A p l e room_1 s m args below meth c Q (k + 6) (n + 36) (ml cy adm Mm2 ++ wx cy sa o f2 adc nr Mc2) 675 [(6, vi (bI y)), (5, vi (kReq nr nd x z)), (4, vi i), (0, .ref b), (1, .ref (adc 0)), (2, .ref (adm 0)), (3, .ref o)] [.long 0, .long (L64 (!(rq x.toNat).testBit z.toNat))]
      refine V.lcmpE C dL_law_675 (by rw [← hy h659, h667]; rfl) ?_
      show V D 7 A p l e room_1 s m args below meth c Q (k + 6) (n + 36) (ml cy adm Mm2 ++ wx cy sa o f2 adc nr Mc2) 676 [(6, vi (bI y)), (5, vi (kReq nr nd x z)), (4, vi i), (0, .ref b), (1, .ref (adc 0)), (2, .ref (adm 0)), (3, .ref o)] [vi 0]
      refine V.if_eq C 681 dL_law_676 (by decide) ⟨by decide, by decide⟩ (fun h676 => ?_) (fun h676 => (by exact absurd h676 (by decide)))
      refine V.goto C 1757 dL_law_681 (by decide) ?_
      exact V.sub [2, 3, 4, 5, 6] rfl (kk _ _ (by omega) (by omega) f2 adc adm nr Mc2 Mm2 _ _ _ _ _ rfl rfl (e0 h659).2 (hm.1 h659) (hcl.req9 h659))
    · skip
      refine V.lconst C (v := 1) dL_law_670 rfl ?_
      show V D 7 A p l e room_1 s m args below meth c Q (k + 6) (n + 36) (ml cy adm Mm2 ++ wx cy sa o f2 adc nr Mc2) 671 [(6, vi (bI y)), (5, vi (kReq nr nd x z)), (4, vi i), (0, .ref b), (1, .ref (adc 0)), (2, .ref (adm 0)), (3, .ref o)] [.long 1, .long (L64 (!(rq x.toNat).testBit z.toNat))]
      refine V.goto C 675 dL_law_671 (by decide) ?_
      refine V.lcmpE C dL_law_675 (by rw [← hy h659, h667]; rfl) ?_
      show V D 7 A p l e room_1 s m args below meth c Q (k + 6) (n + 36) (ml cy adm Mm2 ++ wx cy sa o f2 adc nr Mc2) 676 [(6, vi (bI y)), (5, vi (kReq nr nd x z)), (4, vi i), (0, .ref b), (1, .ref (adc 0)), (2, .ref (adm 0)), (3, .ref o)] [vi 0]
      refine V.if_eq C 681 dL_law_676 (by decide) ⟨by decide, by decide⟩ (fun h676 => ?_) (fun h676 => (by exact absurd h676 (by decide)))
      refine V.goto C 1757 dL_law_681 (by decide) ?_
      exact V.sub [2, 3, 4, 5, 6] rfl (kk _ _ (by omega) (by omega) f2 adc adm nr Mc2 Mm2 _ _ _ _ _ rfl rfl (e0 h659).2 (hm.1 h659) (hcl.req9 h659))
set_option maxHeartbeats 4000000 in
set_option maxRecDepth 100000 in
theorem law_c8 {p : Program} {l : Launch} {e : Env} {s : State} {m : MethodId} {args : Array Value} {below : List Frame} {meth : Method} {c : Code} {D : va_G} {cy : Nat → ClassId} {sa : Nat → Addr} {A : Nat → Prop} {Q : State → Prop} (hfl : l.stackTraces = false) (C : Cx D cy sa RL cL_law 7 (some .boolean) A p l s m args meth c) {b L : Nat} {xs : Nat → Int32} (hX : va_X b L xs s s.heap) (hbl : b < s.heap.size) (hbA : ¬ A b) (hL : L ≤ 3584) {k n : Nat} (hk : k + 20 ≤ room_1.cells) (hn9 : n + 1000 ≤ room_1.slots) {o a1 a2 : Nat} {i : Int} (i0 : 0 ≤ i) (i1 : i + 7 ≤ (L : Int)) (kk : ∀ k2 n2 : Nat, k2 ≤ k + 20 → n2 ≤ n + 1000 → LV D cy sa A p l e s m args below meth c Q b o a1 a2 k2 n2 1757 [(4, vi i)] []) : LV D cy sa A p l e s m args below meth c Q b o a1 a2 k n 684 [(4, vi i)] [] := by
  intro f adc adm nr Mc Mm h td q rq nd rfl rfl hci hmi hcl
  have rg : inR (nr : Int) := by have := hci.2.2.1; exact ⟨by omega, by omega⟩
  show V D 7 A p l e room_1 s m args below meth c Q k n (ml cy adm Mm ++ wx cy sa o f adc nr Mc) 684 [(4, vi i), (0, .ref b), (1, .ref (adc 0)), (2, .ref (adm 0)), (3, .ref o)] []
  refine V.aload_n C dL_law_684 2 rfl ?_
  refine V.perm (ws2 := (ml cy adm Mm ++ [(o, .inl (cy 3, 1, .inr (.inl f)))]) ++ cl cy (sa 100) adc nr Mc) (List.Perm.of_eq (List.append_assoc _ _ _).symm) ?_
  refine V.callVc (R := room_1) (k := k) (n := n) C (wr := ml cy adm Mm ++ [(o, .inl (cy 3, 1, .inr (.inl f)))]) (As := []) (st := []) (b := adc 0) kV_L_131 (c_rules l D cy sa hfl adc nr Mc h td q rq nd hci) 0 cl_0 rfl rfl rfl (Nat.le_of_ble_eq_true rfl) ⟨by decide, by decide⟩ ⟨by omega, by omega⟩ dL_law_685 (fun _ _ h => h.elim) (fun v1 w1 r1 => ?_)
  obtain ⟨rfl, Mc2, hw1, hc2⟩ := r1
  rw [hw1]
  refine V.perm (List.Perm.of_eq (List.append_assoc _ _ _)) ?_
  show V D 7 A p l e room_1 s m args below meth c Q (k + 6) (n + 36) (ml cy adm Mm ++ wx cy sa o f adc nr Mc2) 688 [(4, vi i), (0, .ref b), (1, .ref (adc 0)), (2, .ref (adm 0)), (3, .ref o)] [vi (nr : Int)]
  refine V.aload_n C dL_law_688 3 rfl ?_
  refine V.perm List.perm_append_comm ?_
  refine V.callVc C (wr := wx cy sa o f adc nr Mc2) (As := []) (st := [vi (nr : Int)]) (b := adm 0) kV_L_134 (c_m_rules l D cy sa hfl adm Mm h td nr q rq hmi  ) 0 rfl rfl rfl rfl (Nat.le_of_ble_eq_true rfl) ⟨by decide, by decide⟩ ⟨by omega, by omega⟩ dL_law_689 (fun _ _ h => h.elim) (fun v2 w2 r2 => ?_)
  obtain ⟨rfl, Mm2, hw2, hm⟩ := r2
  rw [hw2]
  refine V.perm List.perm_append_comm ?_
  show V D 7 A p l e room_1 s m args below meth c Q (k + 6) (n + 36) (ml cy adm Mm2 ++ wx cy sa o f adc nr Mc2) 692 [(4, vi i), (0, .ref b), (1, .ref (adc 0)), (2, .ref (adm 0)), (3, .ref o)] [vi (nr : Int), vi (nr : Int)]
  refine V.icmp_eq C 1757 dL_law_692 (by decide) rg rg (fun h692 => ?_) (fun h692 => (by exact absurd rfl h692))
  exact V.sub [0, 1, 2, 3, 4] rfl (kk _ _ (by omega) (by omega) f adc adm nr Mc2 Mm2 h td q rq nd rfl rfl hc2 hm hcl)
set_option maxHeartbeats 4000000 in
set_option maxRecDepth 100000 in
theorem law_c9 {p : Program} {l : Launch} {e : Env} {s : State} {m : MethodId} {args : Array Value} {below : List Frame} {meth : Method} {c : Code} {D : va_G} {cy : Nat → ClassId} {sa : Nat → Addr} {A : Nat → Prop} {Q : State → Prop} (hfl : l.stackTraces = false) (C : Cx D cy sa RL cL_law 7 (some .boolean) A p l s m args meth c) {b L : Nat} {xs : Nat → Int32} (hX : va_X b L xs s s.heap) (hbl : b < s.heap.size) (hbA : ¬ A b) (hL : L ≤ 3584) {k n : Nat} (hk : k + 20 ≤ room_1.cells) (hn9 : n + 1000 ≤ room_1.slots) {o a1 a2 : Nat} {i : Int} (i0 : 0 ≤ i) (i1 : i + 7 ≤ (L : Int)) (kk : ∀ k2 n2 : Nat, k2 ≤ k + 20 → n2 ≤ n + 1000 → LV D cy sa A p l e s m args below meth c Q b o a1 a2 k2 n2 1757 [(4, vi i)] []) : LV D cy sa A p l e s m args below meth c Q b o a1 a2 k n 697 [(4, vi i)] [] := by
  intro f adc adm nr Mc Mm h td q rq nd rfl rfl hci hmi hcl
  obtain ⟨x, hx⟩ : ∃ y, y = (xs (i + 1).toNat).toInt := ⟨_, rfl⟩
  have rx : inR x := by rw [hx]; exact zI_inR _
  obtain ⟨z, hz⟩ : ∃ y, y = (xs (i + 2).toNat).toInt := ⟨_, rfl⟩
  have rz : inR z := by rw [hz]; exact zI_inR _
  show V D 7 A p l e room_1 s m args below meth c Q k n (ml cy adm Mm ++ wx cy sa o f adc nr Mc) 697 [(4, vi i), (0, .ref b), (1, .ref (adc 0)), (2, .ref (adm 0)), (3, .ref o)] []
  refine V.aload_n C dL_law_697 2 rfl ?_
  refine V.aload_n C dL_law_698 1 rfl ?_
  refine V.iload C dL_law_699 0 rfl ?_
  refine V.iconst C dL_law_701 ?_
  refine V.iadd C dL_law_702 ?_
  refine V.sldE C hX hbl hbA (by omega) (v := x) (by omega) (by omega) hx dL_law_703 ?_
  refine V.aload_n C dL_law_704 1 rfl ?_
  refine V.iload C dL_law_705 0 rfl ?_
  refine V.iconst C dL_law_707 ?_
  refine V.iadd C dL_law_708 ?_
  refine V.sldE C hX hbl hbA (by omega) (v := z) (by omega) (by omega) hz dL_law_709 ?_
  refine V.aload_n C dL_law_710 4 rfl ?_
  refine V.callSX C (As := [.ref (adc 0), vi x, vi z, .ref o]) (st := []) (wr := ml cy adm Mm) kX_L_135 (l_dueDay l D cy sa hfl o f adc nr Mc h td q rq nd hci x rx z rz) rfl rfl rfl (Nat.le_of_ble_eq_true rfl) ⟨by decide, by decide⟩ ⟨by omega, by omega⟩ dL_law_711 (fun v1 w1 r1 => ?_)
  obtain ⟨rfl, f2, Mc2, hw1, e0, e1⟩ := r1
  rw [hw1]
  show V D 7 A p l e room_1 s m args below meth c Q (k + 6) (n + 36) (ml cy adm Mm ++ wx cy sa o f2 adc nr Mc2) 714 [(4, vi i), (0, .ref b), (1, .ref (adc 0)), (2, .ref (adm 0)), (3, .ref o)] [vi (kRP nr x z)]
  have hkr := kRP_rng  nr x z
  refine V.istore C (lc2 := [(5, vi (kRP nr x z)), (4, vi i), (0, .ref b), (1, .ref (adc 0)), (2, .ref (adm 0)), (3, .ref o)]) dL_law_714 (by decide) rfl ?_
  refine V.aload_n C dL_law_716 4 rfl ?_
  refine V.aload_n C dL_law_717 2 rfl ?_
  refine V.iload C dL_law_718 1 rfl ?_
  refine V.iconst C dL_law_720 ?_
  refine V.iadd C dL_law_721 ?_
  refine V.sldE C hX hbl hbA (by omega) (v := x) (by omega) (by omega) hx dL_law_722 ?_
  refine V.aload_n C dL_law_723 2 rfl ?_
  refine V.iload C dL_law_724 1 rfl ?_
  refine V.iconst C dL_law_726 ?_
  refine V.iadd C dL_law_727 ?_
  refine V.sldE C hX hbl hbA (by omega) (v := z) (by omega) (by omega) hz dL_law_728 ?_
  refine V.perm List.perm_append_comm ?_
  refine V.callVc C (wr := wx cy sa o f2 adc nr Mc2) (As := [vi x, vi z]) (st := []) (b := adm 0) kV_L_137 (c_m_dueDay l D cy sa hfl adm Mm h td nr q rq hmi  x rx z rz) 0 rfl rfl rfl rfl (Nat.le_of_ble_eq_true rfl) ⟨by decide, by decide⟩ ⟨by omega, by omega⟩ dL_law_729 (fun _ _ h => h.elim) (fun v2 w2 r2 => ?_)
  obtain ⟨y, rfl, hy, Mm2, hw2, ht, hm⟩ := r2
  rw [hw2]
  refine V.perm List.perm_append_comm ?_
  show V D 7 A p l e room_1 s m args below meth c Q (k + 6) (n + 36) (ml cy adm Mm2 ++ wx cy sa o f2 adc nr Mc2) 732 [(5, vi (kRP nr x z)), (4, vi i), (0, .ref b), (1, .ref (adc 0)), (2, .ref (adm 0)), (3, .ref o)] [vi y]
  refine V.istore C (lc2 := [(6, vi y), (5, vi (kRP nr x z)), (4, vi i), (0, .ref b), (1, .ref (adc 0)), (2, .ref (adm 0)), (3, .ref o)]) dL_law_732 (by decide) rfl ?_
  refine V.aload_n C dL_law_734 5 rfl ?_
  refine V.perm List.perm_append_comm ?_
  refine V.callVc C (wr := wx cy sa o f2 adc nr Mc2) (As := []) (st := []) (b := adm 0) kV_L_103 (c_m_thrown l D cy sa hfl adm Mm2) 0 rfl rfl rfl rfl (Nat.le_of_ble_eq_true rfl) ⟨by decide, by decide⟩ ⟨by omega, by omega⟩ dL_law_735 (fun _ _ h => h.elim) (fun v3 w3 r3 => ?_)
  obtain ⟨rfl, hw3⟩ := r3
  rw [hw3, ht]
  refine V.perm List.perm_append_comm ?_
  show V D 7 A p l e room_1 s m args below meth c Q (k + 6) (n + 36) (ml cy adm Mm2 ++ wx cy sa o f2 adc nr Mc2) 738 [(6, vi y), (5, vi (kRP nr x z)), (4, vi i), (0, .ref b), (1, .ref (adc 0)), (2, .ref (adm 0)), (3, .ref o)] [vi (kRP nr x z)]
  refine V.iload C dL_law_738 1 rfl ?_
  refine V.icmp_eq C 745 dL_law_740 (by decide) ⟨by omega, by omega⟩ ⟨by omega, by omega⟩ (fun h740 => ?_) (fun h740 => (by exact absurd rfl h740))
  refine V.iload C dL_law_745 1 rfl ?_
  refine V.if_ne C 762 dL_law_747 (by decide) ⟨by omega, by omega⟩ (fun h747 => ?_) (fun h747 => ?_)
  · skip
    refine V.goto C 1757 dL_law_762 (by decide) ?_
    exact V.sub [2, 3, 4, 5, 6] rfl (kk _ _ (by omega) (by omega) f2 adc adm nr Mc2 Mm2 h td q rq nd rfl rfl (e1 h747) hm hcl)
  · skip
    refine V.aload_n C dL_law_750 6 rfl ?_
    refine V.iconst C dL_law_751 ?_
    refine V.lald C (v := R64 (dk (dueR h (q x.toNat)) 0 z)) 16 rfl (by decide) (by decide) (by decide) (e0 h747).1 dL_law_752 ?_
    show V D 7 A p l e room_1 s m args below meth c Q (k + 6) (n + 36) (ml cy adm Mm2 ++ wx cy sa o f2 adc nr Mc2) 753 [(6, vi y), (5, vi (kRP nr x z)), (4, vi i), (0, .ref b), (1, .ref (adc 0)), (2, .ref (adm 0)), (3, .ref o)] [.long (R64 (dk (dueR h (q x.toNat)) 0 z))]
    refine V.iload C dL_law_753 0 rfl ?_
    refine V.i2l C dL_law_755 ?_
    show V D 7 A p l e room_1 s m args below meth c Q (k + 6) (n + 36) (ml cy adm Mm2 ++ wx cy sa o f2 adc nr Mc2) 756 [(6, vi y), (5, vi (kRP nr x z)), (4, vi i), (0, .ref b), (1, .ref (adc 0)), (2, .ref (adm 0)), (3, .ref o)] [.long (R64 y), .long (R64 (dk (dueR h (q x.toNat)) 0 z))]
    refine V.lcmpE C dL_law_756 (by rw [hy h747]) ?_
    show V D 7 A p l e room_1 s m args below meth c Q (k + 6) (n + 36) (ml cy adm Mm2 ++ wx cy sa o f2 adc nr Mc2) 757 [(6, vi y), (5, vi (kRP nr x z)), (4, vi i), (0, .ref b), (1, .ref (adc 0)), (2, .ref (adm 0)), (3, .ref o)] [vi 0]
    refine V.if_eq C 762 dL_law_757 (by decide) ⟨by decide, by decide⟩ (fun h757 => ?_) (fun h757 => (by exact absurd h757 (by decide)))
    refine V.goto C 1757 dL_law_762 (by decide) ?_
    exact V.sub [2, 3, 4, 5, 6] rfl (kk _ _ (by omega) (by omega) f2 adc adm nr Mc2 Mm2 h td q rq nd rfl rfl (e0 h747).2 hm hcl)
set_option maxHeartbeats 4000000 in
set_option maxRecDepth 100000 in
theorem law_c10 {p : Program} {l : Launch} {e : Env} {s : State} {m : MethodId} {args : Array Value} {below : List Frame} {meth : Method} {c : Code} {D : va_G} {cy : Nat → ClassId} {sa : Nat → Addr} {A : Nat → Prop} {Q : State → Prop} (hfl : l.stackTraces = false) (C : Cx D cy sa RL cL_law 7 (some .boolean) A p l s m args meth c) {b L : Nat} {xs : Nat → Int32} (hX : va_X b L xs s s.heap) (hbl : b < s.heap.size) (hbA : ¬ A b) (hL : L ≤ 3584) {k n : Nat} (hk : k + 20 ≤ room_1.cells) (hn9 : n + 1000 ≤ room_1.slots) {o a1 a2 : Nat} {i : Int} (i0 : 0 ≤ i) (i1 : i + 7 ≤ (L : Int)) (kk : ∀ k2 n2 : Nat, k2 ≤ k + 20 → n2 ≤ n + 1000 → LV D cy sa A p l e s m args below meth c Q b o a1 a2 k2 n2 1757 [(4, vi i)] []) : LV D cy sa A p l e s m args below meth c Q b o a1 a2 k n 765 [(4, vi i)] [] := by
  intro f adc adm nr Mc Mm h td q rq nd rfl rfl hci hmi hcl
  obtain ⟨x, hx⟩ : ∃ y, y = (xs (i + 1).toNat).toInt := ⟨_, rfl⟩
  have rx : inR x := by rw [hx]; exact zI_inR _
  show V D 7 A p l e room_1 s m args below meth c Q k n (ml cy adm Mm ++ wx cy sa o f adc nr Mc) 765 [(4, vi i), (0, .ref b), (1, .ref (adc 0)), (2, .ref (adm 0)), (3, .ref o)] []
  refine V.aload_n C dL_law_765 2 rfl ?_
  refine V.aload_n C dL_law_766 1 rfl ?_
  refine V.iload C dL_law_767 0 rfl ?_
  refine V.iconst C dL_law_769 ?_
  refine V.iadd C dL_law_770 ?_
  refine V.sldE C hX hbl hbA (by omega) (v := x) (by omega) (by omega) hx dL_law_771 ?_
  refine V.aload_n C dL_law_772 4 rfl ?_
  refine V.callSX C (As := [.ref (adc 0), vi x, .ref o]) (st := []) (wr := ml cy adm Mm) kX_L_138 (l_duties l D cy sa hfl o f adc nr Mc h td q rq nd hci x rx) rfl rfl rfl (Nat.le_of_ble_eq_true rfl) ⟨by decide, by decide⟩ ⟨by omega, by omega⟩ dL_law_773 (fun v1 w1 r1 => ?_)
  obtain ⟨rfl, f2, Mc2, hw1, e0, e1⟩ := r1
  rw [hw1]
  show V D 7 A p l e room_1 s m args below meth c Q (k + 6) (n + 36) (ml cy adm Mm ++ wx cy sa o f2 adc nr Mc2) 776 [(4, vi i), (0, .ref b), (1, .ref (adc 0)), (2, .ref (adm 0)), (3, .ref o)] [vi (kRule nr x)]
  have hkr := kRule_rng  nr x
  refine V.istore C (lc2 := [(5, vi (kRule nr x)), (4, vi i), (0, .ref b), (1, .ref (adc 0)), (2, .ref (adm 0)), (3, .ref o)]) dL_law_776 (by decide) rfl ?_
  refine V.aload_n C dL_law_778 4 rfl ?_
  refine V.aload_n C dL_law_779 2 rfl ?_
  refine V.iload C dL_law_780 1 rfl ?_
  refine V.iconst C dL_law_782 ?_
  refine V.iadd C dL_law_783 ?_
  refine V.sldE C hX hbl hbA (by omega) (v := x) (by omega) (by omega) hx dL_law_784 ?_
  refine V.perm List.perm_append_comm ?_
  refine V.callVc C (wr := wx cy sa o f2 adc nr Mc2) (As := [vi x]) (st := []) (b := adm 0) kV_L_140 (c_m_duties l D cy sa hfl adm Mm h td nr q rq hmi  x rx) 0 rfl rfl rfl rfl (Nat.le_of_ble_eq_true rfl) ⟨by decide, by decide⟩ ⟨by omega, by omega⟩ dL_law_785 (fun _ _ h => h.elim) (fun v2 w2 r2 => ?_)
  obtain ⟨y, rfl, hy, Mm2, hw2, ht, hm⟩ := r2
  rw [hw2]
  refine V.perm List.perm_append_comm ?_
  show V D 7 A p l e room_1 s m args below meth c Q (k + 6) (n + 36) (ml cy adm Mm2 ++ wx cy sa o f2 adc nr Mc2) 788 [(5, vi (kRule nr x)), (4, vi i), (0, .ref b), (1, .ref (adc 0)), (2, .ref (adm 0)), (3, .ref o)] [vi y]
  refine V.istore C (lc2 := [(6, vi y), (5, vi (kRule nr x)), (4, vi i), (0, .ref b), (1, .ref (adc 0)), (2, .ref (adm 0)), (3, .ref o)]) dL_law_788 (by decide) rfl ?_
  refine V.aload_n C dL_law_790 5 rfl ?_
  refine V.perm List.perm_append_comm ?_
  refine V.callVc C (wr := wx cy sa o f2 adc nr Mc2) (As := []) (st := []) (b := adm 0) kV_L_103 (c_m_thrown l D cy sa hfl adm Mm2) 0 rfl rfl rfl rfl (Nat.le_of_ble_eq_true rfl) ⟨by decide, by decide⟩ ⟨by omega, by omega⟩ dL_law_791 (fun _ _ h => h.elim) (fun v3 w3 r3 => ?_)
  obtain ⟨rfl, hw3⟩ := r3
  rw [hw3, ht]
  refine V.perm List.perm_append_comm ?_
  show V D 7 A p l e room_1 s m args below meth c Q (k + 6) (n + 36) (ml cy adm Mm2 ++ wx cy sa o f2 adc nr Mc2) 794 [(6, vi y), (5, vi (kRule nr x)), (4, vi i), (0, .ref b), (1, .ref (adc 0)), (2, .ref (adm 0)), (3, .ref o)] [vi (kRule nr x)]
  refine V.iload C dL_law_794 1 rfl ?_
  refine V.icmp_eq C 801 dL_law_796 (by decide) ⟨by omega, by omega⟩ ⟨by omega, by omega⟩ (fun h796 => ?_) (fun h796 => (by exact absurd rfl h796))
  refine V.iload C dL_law_801 1 rfl ?_
  refine V.if_ne C 818 dL_law_803 (by decide) ⟨by omega, by omega⟩ (fun h803 => ?_) (fun h803 => ?_)
  · skip
    refine V.goto C 1757 dL_law_818 (by decide) ?_
    exact V.sub [2, 3, 4, 5, 6] rfl (kk _ _ (by omega) (by omega) f2 adc adm nr Mc2 Mm2 h td q rq nd rfl rfl (e1 h803) hm hcl)
  · skip
    refine V.aload_n C dL_law_806 6 rfl ?_
    refine V.iconst C dL_law_807 ?_
    refine V.lald C (v := R64 (ct (dueR h (q x.toNat)) 0 720)) 16 rfl (by decide) (by decide) (by decide) (e0 h803).1 dL_law_808 ?_
    show V D 7 A p l e room_1 s m args below meth c Q (k + 6) (n + 36) (ml cy adm Mm2 ++ wx cy sa o f2 adc nr Mc2) 809 [(6, vi y), (5, vi (kRule nr x)), (4, vi i), (0, .ref b), (1, .ref (adc 0)), (2, .ref (adm 0)), (3, .ref o)] [.long (R64 (ct (dueR h (q x.toNat)) 0 720))]
    refine V.iload C dL_law_809 0 rfl ?_
    refine V.i2l C dL_law_811 ?_
    show V D 7 A p l e room_1 s m args below meth c Q (k + 6) (n + 36) (ml cy adm Mm2 ++ wx cy sa o f2 adc nr Mc2) 812 [(6, vi y), (5, vi (kRule nr x)), (4, vi i), (0, .ref b), (1, .ref (adc 0)), (2, .ref (adm 0)), (3, .ref o)] [.long (R64 y), .long (R64 (ct (dueR h (q x.toNat)) 0 720))]
    refine V.lcmpE C dL_law_812 (by rw [hy h803]) ?_
    show V D 7 A p l e room_1 s m args below meth c Q (k + 6) (n + 36) (ml cy adm Mm2 ++ wx cy sa o f2 adc nr Mc2) 813 [(6, vi y), (5, vi (kRule nr x)), (4, vi i), (0, .ref b), (1, .ref (adc 0)), (2, .ref (adm 0)), (3, .ref o)] [vi 0]
    refine V.if_eq C 818 dL_law_813 (by decide) ⟨by decide, by decide⟩ (fun h813 => ?_) (fun h813 => (by exact absurd h813 (by decide)))
    refine V.goto C 1757 dL_law_818 (by decide) ?_
    exact V.sub [2, 3, 4, 5, 6] rfl (kk _ _ (by omega) (by omega) f2 adc adm nr Mc2 Mm2 h td q rq nd rfl rfl (e0 h803).2 hm hcl)
set_option maxHeartbeats 4000000 in
set_option maxRecDepth 100000 in
theorem law_c11 {p : Program} {l : Launch} {e : Env} {s : State} {m : MethodId} {args : Array Value} {below : List Frame} {meth : Method} {c : Code} {D : va_G} {cy : Nat → ClassId} {sa : Nat → Addr} {A : Nat → Prop} {Q : State → Prop} (hfl : l.stackTraces = false) (C : Cx D cy sa RL cL_law 7 (some .boolean) A p l s m args meth c) {b L : Nat} {xs : Nat → Int32} (hX : va_X b L xs s s.heap) (hbl : b < s.heap.size) (hbA : ¬ A b) (hL : L ≤ 3584) {k n : Nat} (hk : k + 20 ≤ room_1.cells) (hn9 : n + 1000 ≤ room_1.slots) {o a1 a2 : Nat} {i : Int} (i0 : 0 ≤ i) (i1 : i + 7 ≤ (L : Int)) (kk : ∀ k2 n2 : Nat, k2 ≤ k + 20 → n2 ≤ n + 1000 → LV D cy sa A p l e s m args below meth c Q b o a1 a2 k2 n2 1757 [(4, vi i)] []) : LV D cy sa A p l e s m args below meth c Q b o a1 a2 k n 821 [(4, vi i)] [] := by
  intro f adc adm nr Mc Mm h td q rq nd rfl rfl hci hmi hcl
  obtain ⟨x, hx⟩ : ∃ y, y = (xs (i + 1).toNat).toInt := ⟨_, rfl⟩
  have rx : inR x := by rw [hx]; exact zI_inR _
  obtain ⟨z, hz⟩ : ∃ y, y = (xs (i + 2).toNat).toInt := ⟨_, rfl⟩
  have rz : inR z := by rw [hz]; exact zI_inR _
  show V D 7 A p l e room_1 s m args below meth c Q k n (ml cy adm Mm ++ wx cy sa o f adc nr Mc) 821 [(4, vi i), (0, .ref b), (1, .ref (adc 0)), (2, .ref (adm 0)), (3, .ref o)] []
  refine V.aload_n C dL_law_821 2 rfl ?_
  refine V.aload_n C dL_law_822 1 rfl ?_
  refine V.iload C dL_law_823 0 rfl ?_
  refine V.iconst C dL_law_825 ?_
  refine V.iadd C dL_law_826 ?_
  refine V.sldE C hX hbl hbA (by omega) (v := x) (by omega) (by omega) hx dL_law_827 ?_
  refine V.aload_n C dL_law_828 1 rfl ?_
  refine V.iload C dL_law_829 0 rfl ?_
  refine V.iconst C dL_law_831 ?_
  refine V.iadd C dL_law_832 ?_
  refine V.sldE C hX hbl hbA (by omega) (v := z) (by omega) (by omega) hz dL_law_833 ?_
  refine V.aload_n C dL_law_834 4 rfl ?_
  refine V.callSX C (As := [.ref (adc 0), vi x, vi z, .ref o]) (st := []) (wr := ml cy adm Mm) kX_L_141 (l_nextDue l D cy sa hfl o f adc nr Mc h td q rq nd hci x rx z rz) rfl rfl rfl (Nat.le_of_ble_eq_true rfl) ⟨by decide, by decide⟩ ⟨by omega, by omega⟩ dL_law_835 (fun v1 w1 r1 => ?_)
  obtain ⟨rfl, f2, Mc2, hw1, e0, e1⟩ := r1
  rw [hw1]
  show V D 7 A p l e room_1 s m args below meth c Q (k + 6) (n + 36) (ml cy adm Mm ++ wx cy sa o f2 adc nr Mc2) 838 [(4, vi i), (0, .ref b), (1, .ref (adc 0)), (2, .ref (adm 0)), (3, .ref o)] [vi (kRD nr x z)]
  have hkr := kRD_rng  nr x z
  refine V.istore C (lc2 := [(5, vi (kRD nr x z)), (4, vi i), (0, .ref b), (1, .ref (adc 0)), (2, .ref (adm 0)), (3, .ref o)]) dL_law_838 (by decide) rfl ?_
  refine V.aload_n C dL_law_840 4 rfl ?_
  refine V.aload_n C dL_law_841 2 rfl ?_
  refine V.iload C dL_law_842 1 rfl ?_
  refine V.iconst C dL_law_844 ?_
  refine V.iadd C dL_law_845 ?_
  refine V.sldE C hX hbl hbA (by omega) (v := x) (by omega) (by omega) hx dL_law_846 ?_
  refine V.aload_n C dL_law_847 2 rfl ?_
  refine V.iload C dL_law_848 1 rfl ?_
  refine V.iconst C dL_law_850 ?_
  refine V.iadd C dL_law_851 ?_
  refine V.sldE C hX hbl hbA (by omega) (v := z) (by omega) (by omega) hz dL_law_852 ?_
  refine V.perm List.perm_append_comm ?_
  refine V.callVc C (wr := wx cy sa o f2 adc nr Mc2) (As := [vi x, vi z]) (st := []) (b := adm 0) kV_L_143 (c_m_nextDue l D cy sa hfl adm Mm h td nr q rq hmi  x rx z rz) 0 rfl rfl rfl rfl (Nat.le_of_ble_eq_true rfl) ⟨by decide, by decide⟩ ⟨by omega, by omega⟩ dL_law_853 (fun _ _ h => h.elim) (fun v2 w2 r2 => ?_)
  obtain ⟨y, rfl, hy, Mm2, hw2, ht, hm⟩ := r2
  rw [hw2]
  refine V.perm List.perm_append_comm ?_
  show V D 7 A p l e room_1 s m args below meth c Q (k + 6) (n + 36) (ml cy adm Mm2 ++ wx cy sa o f2 adc nr Mc2) 856 [(5, vi (kRD nr x z)), (4, vi i), (0, .ref b), (1, .ref (adc 0)), (2, .ref (adm 0)), (3, .ref o)] [vi y]
  refine V.istore C (lc2 := [(6, vi y), (5, vi (kRD nr x z)), (4, vi i), (0, .ref b), (1, .ref (adc 0)), (2, .ref (adm 0)), (3, .ref o)]) dL_law_856 (by decide) rfl ?_
  refine V.aload_n C dL_law_858 5 rfl ?_
  refine V.perm List.perm_append_comm ?_
  refine V.callVc C (wr := wx cy sa o f2 adc nr Mc2) (As := []) (st := []) (b := adm 0) kV_L_103 (c_m_thrown l D cy sa hfl adm Mm2) 0 rfl rfl rfl rfl (Nat.le_of_ble_eq_true rfl) ⟨by decide, by decide⟩ ⟨by omega, by omega⟩ dL_law_859 (fun _ _ h => h.elim) (fun v3 w3 r3 => ?_)
  obtain ⟨rfl, hw3⟩ := r3
  rw [hw3, ht]
  refine V.perm List.perm_append_comm ?_
  show V D 7 A p l e room_1 s m args below meth c Q (k + 6) (n + 36) (ml cy adm Mm2 ++ wx cy sa o f2 adc nr Mc2) 862 [(6, vi y), (5, vi (kRD nr x z)), (4, vi i), (0, .ref b), (1, .ref (adc 0)), (2, .ref (adm 0)), (3, .ref o)] [vi (kRD nr x z)]
  refine V.iload C dL_law_862 1 rfl ?_
  refine V.icmp_eq C 869 dL_law_864 (by decide) ⟨by omega, by omega⟩ ⟨by omega, by omega⟩ (fun h864 => ?_) (fun h864 => (by exact absurd rfl h864))
  refine V.iload C dL_law_869 1 rfl ?_
  refine V.if_ne C 886 dL_law_871 (by decide) ⟨by omega, by omega⟩ (fun h871 => ?_) (fun h871 => ?_)
  · skip
    refine V.goto C 1757 dL_law_886 (by decide) ?_
    exact V.sub [2, 3, 4, 5, 6] rfl (kk _ _ (by omega) (by omega) f2 adc adm nr Mc2 Mm2 h td q rq nd rfl rfl (e1 h871) hm hcl)
  · skip
    refine V.aload_n C dL_law_874 6 rfl ?_
    refine V.iconst C dL_law_875 ?_
    refine V.lald C (v := R64 (fst (dueR h (q x.toNat)) z)) 16 rfl (by decide) (by decide) (by decide) (e0 h871).1 dL_law_876 ?_
    show V D 7 A p l e room_1 s m args below meth c Q (k + 6) (n + 36) (ml cy adm Mm2 ++ wx cy sa o f2 adc nr Mc2) 877 [(6, vi y), (5, vi (kRD nr x z)), (4, vi i), (0, .ref b), (1, .ref (adc 0)), (2, .ref (adm 0)), (3, .ref o)] [.long (R64 (fst (dueR h (q x.toNat)) z))]
    refine V.iload C dL_law_877 0 rfl ?_
    refine V.i2l C dL_law_879 ?_
    show V D 7 A p l e room_1 s m args below meth c Q (k + 6) (n + 36) (ml cy adm Mm2 ++ wx cy sa o f2 adc nr Mc2) 880 [(6, vi y), (5, vi (kRD nr x z)), (4, vi i), (0, .ref b), (1, .ref (adc 0)), (2, .ref (adm 0)), (3, .ref o)] [.long (R64 y), .long (R64 (fst (dueR h (q x.toNat)) z))]
    refine V.lcmpE C dL_law_880 (by rw [hy h871]) ?_
    show V D 7 A p l e room_1 s m args below meth c Q (k + 6) (n + 36) (ml cy adm Mm2 ++ wx cy sa o f2 adc nr Mc2) 881 [(6, vi y), (5, vi (kRD nr x z)), (4, vi i), (0, .ref b), (1, .ref (adc 0)), (2, .ref (adm 0)), (3, .ref o)] [vi 0]
    refine V.if_eq C 886 dL_law_881 (by decide) ⟨by decide, by decide⟩ (fun h881 => ?_) (fun h881 => (by exact absurd h881 (by decide)))
    refine V.goto C 1757 dL_law_886 (by decide) ?_
    exact V.sub [2, 3, 4, 5, 6] rfl (kk _ _ (by omega) (by omega) f2 adc adm nr Mc2 Mm2 h td q rq nd rfl rfl (e0 h871).2 hm hcl)
set_option maxHeartbeats 4000000 in
set_option maxRecDepth 100000 in
theorem law_c12 {p : Program} {l : Launch} {e : Env} {s : State} {m : MethodId} {args : Array Value} {below : List Frame} {meth : Method} {c : Code} {D : va_G} {cy : Nat → ClassId} {sa : Nat → Addr} {A : Nat → Prop} {Q : State → Prop} (hfl : l.stackTraces = false) (C : Cx D cy sa RL cL_law 7 (some .boolean) A p l s m args meth c) {b L : Nat} {xs : Nat → Int32} (hX : va_X b L xs s s.heap) (hbl : b < s.heap.size) (hbA : ¬ A b) (hL : L ≤ 3584) {k n : Nat} (hk : k + 20 ≤ room_1.cells) (hn9 : n + 1000 ≤ room_1.slots) {o a1 a2 : Nat} {i : Int} (i0 : 0 ≤ i) (i1 : i + 7 ≤ (L : Int)) (kk : ∀ k2 n2 : Nat, k2 ≤ k + 20 → n2 ≤ n + 1000 → LV D cy sa A p l e s m args below meth c Q b o a1 a2 k2 n2 1757 [(4, vi i)] []) : LV D cy sa A p l e s m args below meth c Q b o a1 a2 k n 889 [(4, vi i)] [] := by
  intro f adc adm nr Mc Mm h td q rq nd rfl rfl hci hmi hcl
  obtain ⟨x, hx⟩ : ∃ y, y = (xs (i + 1).toNat).toInt := ⟨_, rfl⟩
  have rx : inR x := by rw [hx]; exact zI_inR _
  obtain ⟨z, hz⟩ : ∃ y, y = (xs (i + 2).toNat).toInt := ⟨_, rfl⟩
  have rz : inR z := by rw [hz]; exact zI_inR _
  show V D 7 A p l e room_1 s m args below meth c Q k n (ml cy adm Mm ++ wx cy sa o f adc nr Mc) 889 [(4, vi i), (0, .ref b), (1, .ref (adc 0)), (2, .ref (adm 0)), (3, .ref o)] []
  refine V.aload_n C dL_law_889 2 rfl ?_
  refine V.aload_n C dL_law_890 1 rfl ?_
  refine V.iload C dL_law_891 0 rfl ?_
  refine V.iconst C dL_law_893 ?_
  refine V.iadd C dL_law_894 ?_
  refine V.sldE C hX hbl hbA (by omega) (v := x) (by omega) (by omega) hx dL_law_895 ?_
  refine V.aload_n C dL_law_896 1 rfl ?_
  refine V.iload C dL_law_897 0 rfl ?_
  refine V.iconst C dL_law_899 ?_
  refine V.iadd C dL_law_900 ?_
  refine V.sldE C hX hbl hbA (by omega) (v := z) (by omega) (by omega) hz dL_law_901 ?_
  refine V.aload_n C dL_law_902 4 rfl ?_
  refine V.callSX C (As := [.ref (adc 0), vi x, vi z, .ref o]) (st := []) (wr := ml cy adm Mm) kX_L_144 (l_nextDueByWalking l D cy sa hfl o f adc nr Mc h td q rq nd hci x rx z rz) rfl rfl rfl (Nat.le_of_ble_eq_true rfl) ⟨by decide, by decide⟩ ⟨by omega, by omega⟩ dL_law_903 (fun v1 w1 r1 => ?_)
  obtain ⟨rfl, f2, Mc2, hw1, e0, e1⟩ := r1
  rw [hw1]
  show V D 7 A p l e room_1 s m args below meth c Q (k + 6) (n + 36) (ml cy adm Mm ++ wx cy sa o f2 adc nr Mc2) 906 [(4, vi i), (0, .ref b), (1, .ref (adc 0)), (2, .ref (adm 0)), (3, .ref o)] [vi (kRD nr x z)]
  have hkr := kRD_rng  nr x z
  refine V.istore C (lc2 := [(5, vi (kRD nr x z)), (4, vi i), (0, .ref b), (1, .ref (adc 0)), (2, .ref (adm 0)), (3, .ref o)]) dL_law_906 (by decide) rfl ?_
  refine V.aload_n C dL_law_908 4 rfl ?_
  refine V.aload_n C dL_law_909 2 rfl ?_
  refine V.iload C dL_law_910 1 rfl ?_
  refine V.iconst C dL_law_912 ?_
  refine V.iadd C dL_law_913 ?_
  refine V.sldE C hX hbl hbA (by omega) (v := x) (by omega) (by omega) hx dL_law_914 ?_
  refine V.aload_n C dL_law_915 2 rfl ?_
  refine V.iload C dL_law_916 1 rfl ?_
  refine V.iconst C dL_law_918 ?_
  refine V.iadd C dL_law_919 ?_
  refine V.sldE C hX hbl hbA (by omega) (v := z) (by omega) (by omega) hz dL_law_920 ?_
  refine V.perm List.perm_append_comm ?_
  refine V.callVc C (wr := wx cy sa o f2 adc nr Mc2) (As := [vi x, vi z]) (st := []) (b := adm 0) kV_L_146 (c_m_nextDueByWalking l D cy sa hfl adm Mm h td nr q rq hmi  x rx z rz) 0 rfl rfl rfl rfl (Nat.le_of_ble_eq_true rfl) ⟨by decide, by decide⟩ ⟨by omega, by omega⟩ dL_law_921 (fun _ _ h => h.elim) (fun v2 w2 r2 => ?_)
  obtain ⟨y, rfl, hy, Mm2, hw2, ht, hm⟩ := r2
  rw [hw2]
  refine V.perm List.perm_append_comm ?_
  show V D 7 A p l e room_1 s m args below meth c Q (k + 6) (n + 36) (ml cy adm Mm2 ++ wx cy sa o f2 adc nr Mc2) 924 [(5, vi (kRD nr x z)), (4, vi i), (0, .ref b), (1, .ref (adc 0)), (2, .ref (adm 0)), (3, .ref o)] [vi y]
  refine V.istore C (lc2 := [(6, vi y), (5, vi (kRD nr x z)), (4, vi i), (0, .ref b), (1, .ref (adc 0)), (2, .ref (adm 0)), (3, .ref o)]) dL_law_924 (by decide) rfl ?_
  refine V.aload_n C dL_law_926 5 rfl ?_
  refine V.perm List.perm_append_comm ?_
  refine V.callVc C (wr := wx cy sa o f2 adc nr Mc2) (As := []) (st := []) (b := adm 0) kV_L_103 (c_m_thrown l D cy sa hfl adm Mm2) 0 rfl rfl rfl rfl (Nat.le_of_ble_eq_true rfl) ⟨by decide, by decide⟩ ⟨by omega, by omega⟩ dL_law_927 (fun _ _ h => h.elim) (fun v3 w3 r3 => ?_)
  obtain ⟨rfl, hw3⟩ := r3
  rw [hw3, ht]
  refine V.perm List.perm_append_comm ?_
  show V D 7 A p l e room_1 s m args below meth c Q (k + 6) (n + 36) (ml cy adm Mm2 ++ wx cy sa o f2 adc nr Mc2) 930 [(6, vi y), (5, vi (kRD nr x z)), (4, vi i), (0, .ref b), (1, .ref (adc 0)), (2, .ref (adm 0)), (3, .ref o)] [vi (kRD nr x z)]
  refine V.iload C dL_law_930 1 rfl ?_
  refine V.icmp_eq C 937 dL_law_932 (by decide) ⟨by omega, by omega⟩ ⟨by omega, by omega⟩ (fun h932 => ?_) (fun h932 => (by exact absurd rfl h932))
  refine V.iload C dL_law_937 1 rfl ?_
  refine V.if_ne C 954 dL_law_939 (by decide) ⟨by omega, by omega⟩ (fun h939 => ?_) (fun h939 => ?_)
  · skip
    refine V.goto C 1757 dL_law_954 (by decide) ?_
    exact V.sub [2, 3, 4, 5, 6] rfl (kk _ _ (by omega) (by omega) f2 adc adm nr Mc2 Mm2 h td q rq nd rfl rfl (e1 h939) hm hcl)
  · skip
    refine V.aload_n C dL_law_942 6 rfl ?_
    refine V.iconst C dL_law_943 ?_
    refine V.lald C (v := R64 (fst (dueR h (q x.toNat)) z)) 16 rfl (by decide) (by decide) (by decide) (e0 h939).1 dL_law_944 ?_
    show V D 7 A p l e room_1 s m args below meth c Q (k + 6) (n + 36) (ml cy adm Mm2 ++ wx cy sa o f2 adc nr Mc2) 945 [(6, vi y), (5, vi (kRD nr x z)), (4, vi i), (0, .ref b), (1, .ref (adc 0)), (2, .ref (adm 0)), (3, .ref o)] [.long (R64 (fst (dueR h (q x.toNat)) z))]
    refine V.iload C dL_law_945 0 rfl ?_
    refine V.i2l C dL_law_947 ?_
    show V D 7 A p l e room_1 s m args below meth c Q (k + 6) (n + 36) (ml cy adm Mm2 ++ wx cy sa o f2 adc nr Mc2) 948 [(6, vi y), (5, vi (kRD nr x z)), (4, vi i), (0, .ref b), (1, .ref (adc 0)), (2, .ref (adm 0)), (3, .ref o)] [.long (R64 y), .long (R64 (fst (dueR h (q x.toNat)) z))]
    refine V.lcmpE C dL_law_948 (by rw [hy h939]) ?_
    show V D 7 A p l e room_1 s m args below meth c Q (k + 6) (n + 36) (ml cy adm Mm2 ++ wx cy sa o f2 adc nr Mc2) 949 [(6, vi y), (5, vi (kRD nr x z)), (4, vi i), (0, .ref b), (1, .ref (adc 0)), (2, .ref (adm 0)), (3, .ref o)] [vi 0]
    refine V.if_eq C 954 dL_law_949 (by decide) ⟨by decide, by decide⟩ (fun h949 => ?_) (fun h949 => (by exact absurd h949 (by decide)))
    refine V.goto C 1757 dL_law_954 (by decide) ?_
    exact V.sub [2, 3, 4, 5, 6] rfl (kk _ _ (by omega) (by omega) f2 adc adm nr Mc2 Mm2 h td q rq nd rfl rfl (e0 h939).2 hm hcl)
set_option maxHeartbeats 4000000 in
set_option maxRecDepth 100000 in
theorem law_c13 {p : Program} {l : Launch} {e : Env} {s : State} {m : MethodId} {args : Array Value} {below : List Frame} {meth : Method} {c : Code} {D : va_G} {cy : Nat → ClassId} {sa : Nat → Addr} {A : Nat → Prop} {Q : State → Prop} (hfl : l.stackTraces = false) (C : Cx D cy sa RL cL_law 7 (some .boolean) A p l s m args meth c) {b L : Nat} {xs : Nat → Int32} (hX : va_X b L xs s s.heap) (hbl : b < s.heap.size) (hbA : ¬ A b) (hL : L ≤ 3584) {k n : Nat} (hk : k + 20 ≤ room_1.cells) (hn9 : n + 1000 ≤ room_1.slots) {o a1 a2 : Nat} {i : Int} (i0 : 0 ≤ i) (i1 : i + 7 ≤ (L : Int)) (kk : ∀ k2 n2 : Nat, k2 ≤ k + 20 → n2 ≤ n + 1000 → LV D cy sa A p l e s m args below meth c Q b o a1 a2 k2 n2 1757 [(4, vi i)] []) : LV D cy sa A p l e s m args below meth c Q b o a1 a2 k n 957 [(4, vi i)] [] := by
  intro f adc adm nr Mc Mm h td q rq nd rfl rfl hci hmi hcl
  obtain ⟨x, hx⟩ : ∃ y, y = (xs (i + 1).toNat).toInt := ⟨_, rfl⟩
  have rx : inR x := by rw [hx]; exact zI_inR _
  obtain ⟨z, hz⟩ : ∃ y, y = (xs (i + 2).toNat).toInt := ⟨_, rfl⟩
  have rz : inR z := by rw [hz]; exact zI_inR _
  show V D 7 A p l e room_1 s m args below meth c Q k n (ml cy adm Mm ++ wx cy sa o f adc nr Mc) 957 [(4, vi i), (0, .ref b), (1, .ref (adc 0)), (2, .ref (adm 0)), (3, .ref o)] []
  refine V.aload_n C dL_law_957 2 rfl ?_
  refine V.aload_n C dL_law_958 1 rfl ?_
  refine V.iload C dL_law_959 0 rfl ?_
  refine V.iconst C dL_law_961 ?_
  refine V.iadd C dL_law_962 ?_
  refine V.sldE C hX hbl hbA (by omega) (v := x) (by omega) (by omega) hx dL_law_963 ?_
  refine V.aload_n C dL_law_964 1 rfl ?_
  refine V.iload C dL_law_965 0 rfl ?_
  refine V.iconst C dL_law_967 ?_
  refine V.iadd C dL_law_968 ?_
  refine V.sldE C hX hbl hbA (by omega) (v := z) (by omega) (by omega) hz dL_law_969 ?_
  refine V.aload_n C dL_law_970 4 rfl ?_
  refine V.callSX C (As := [.ref (adc 0), vi x, vi z, .ref o]) (st := []) (wr := ml cy adm Mm) kX_L_147 (l_upcoming l D cy sa hfl o f adc nr Mc h td q rq nd hci x rx z rz) rfl rfl rfl (Nat.le_of_ble_eq_true rfl) ⟨by decide, by decide⟩ ⟨by omega, by omega⟩ dL_law_971 (fun v1 w1 r1 => ?_)
  obtain ⟨rfl, f2, Mc2, hw1, e0, e1⟩ := r1
  rw [hw1]
  show V D 7 A p l e room_1 s m args below meth c Q (k + 6) (n + 36) (ml cy adm Mm ++ wx cy sa o f2 adc nr Mc2) 974 [(4, vi i), (0, .ref b), (1, .ref (adc 0)), (2, .ref (adm 0)), (3, .ref o)] [vi (kDP x z)]
  have hkr := kDP_rng  x z
  refine V.istore C (lc2 := [(5, vi (kDP x z)), (4, vi i), (0, .ref b), (1, .ref (adc 0)), (2, .ref (adm 0)), (3, .ref o)]) dL_law_974 (by decide) rfl ?_
  refine V.aload_n C dL_law_976 4 rfl ?_
  refine V.aload_n C dL_law_977 2 rfl ?_
  refine V.iload C dL_law_978 1 rfl ?_
  refine V.iconst C dL_law_980 ?_
  refine V.iadd C dL_law_981 ?_
  refine V.sldE C hX hbl hbA (by omega) (v := x) (by omega) (by omega) hx dL_law_982 ?_
  refine V.aload_n C dL_law_983 2 rfl ?_
  refine V.iload C dL_law_984 1 rfl ?_
  refine V.iconst C dL_law_986 ?_
  refine V.iadd C dL_law_987 ?_
  refine V.sldE C hX hbl hbA (by omega) (v := z) (by omega) (by omega) hz dL_law_988 ?_
  refine V.perm List.perm_append_comm ?_
  refine V.callVc C (wr := wx cy sa o f2 adc nr Mc2) (As := [vi x, vi z]) (st := []) (b := adm 0) kV_L_149 (c_m_upcoming l D cy sa hfl adm Mm h td nr q rq hmi  x rx z rz) 0 rfl rfl rfl rfl (Nat.le_of_ble_eq_true rfl) ⟨by decide, by decide⟩ ⟨by omega, by omega⟩ dL_law_989 (fun _ _ h => h.elim) (fun v2 w2 r2 => ?_)
  obtain ⟨y, rfl, hy, Mm2, hw2, ht, hm⟩ := r2
  rw [hw2]
  refine V.perm List.perm_append_comm ?_
  show V D 7 A p l e room_1 s m args below meth c Q (k + 6) (n + 36) (ml cy adm Mm2 ++ wx cy sa o f2 adc nr Mc2) 992 [(5, vi (kDP x z)), (4, vi i), (0, .ref b), (1, .ref (adc 0)), (2, .ref (adm 0)), (3, .ref o)] [vi y]
  refine V.istore C (lc2 := [(6, vi y), (5, vi (kDP x z)), (4, vi i), (0, .ref b), (1, .ref (adc 0)), (2, .ref (adm 0)), (3, .ref o)]) dL_law_992 (by decide) rfl ?_
  refine V.aload_n C dL_law_994 5 rfl ?_
  refine V.perm List.perm_append_comm ?_
  refine V.callVc C (wr := wx cy sa o f2 adc nr Mc2) (As := []) (st := []) (b := adm 0) kV_L_103 (c_m_thrown l D cy sa hfl adm Mm2) 0 rfl rfl rfl rfl (Nat.le_of_ble_eq_true rfl) ⟨by decide, by decide⟩ ⟨by omega, by omega⟩ dL_law_995 (fun _ _ h => h.elim) (fun v3 w3 r3 => ?_)
  obtain ⟨rfl, hw3⟩ := r3
  rw [hw3, ht]
  refine V.perm List.perm_append_comm ?_
  show V D 7 A p l e room_1 s m args below meth c Q (k + 6) (n + 36) (ml cy adm Mm2 ++ wx cy sa o f2 adc nr Mc2) 998 [(6, vi y), (5, vi (kDP x z)), (4, vi i), (0, .ref b), (1, .ref (adc 0)), (2, .ref (adm 0)), (3, .ref o)] [vi (kDP x z)]
  refine V.iload C dL_law_998 1 rfl ?_
  refine V.icmp_eq C 1005 dL_law_1000 (by decide) ⟨by omega, by omega⟩ ⟨by omega, by omega⟩ (fun h1000 => ?_) (fun h1000 => (by exact absurd rfl h1000))
  refine V.iload C dL_law_1005 1 rfl ?_
  refine V.if_ne C 1022 dL_law_1007 (by decide) ⟨by omega, by omega⟩ (fun h1007 => ?_) (fun h1007 => ?_)
  · skip
    refine V.goto C 1757 dL_law_1022 (by decide) ?_
    exact V.sub [2, 3, 4, 5, 6] rfl (kk _ _ (by omega) (by omega) f2 adc adm nr Mc2 Mm2 h td q rq nd rfl rfl (e1 h1007) hm hcl)
  · skip
    refine V.aload_n C dL_law_1010 6 rfl ?_
    refine V.iconst C dL_law_1011 ?_
    refine V.lald C (v := R64 (upc h q nr x z)) 16 rfl (by decide) (by decide) (by decide) (e0 h1007).1 dL_law_1012 ?_
    show V D 7 A p l e room_1 s m args below meth c Q (k + 6) (n + 36) (ml cy adm Mm2 ++ wx cy sa o f2 adc nr Mc2) 1013 [(6, vi y), (5, vi (kDP x z)), (4, vi i), (0, .ref b), (1, .ref (adc 0)), (2, .ref (adm 0)), (3, .ref o)] [.long (R64 (upc h q nr x z))]
    refine V.iload C dL_law_1013 0 rfl ?_
    refine V.i2l C dL_law_1015 ?_
    show V D 7 A p l e room_1 s m args below meth c Q (k + 6) (n + 36) (ml cy adm Mm2 ++ wx cy sa o f2 adc nr Mc2) 1016 [(6, vi y), (5, vi (kDP x z)), (4, vi i), (0, .ref b), (1, .ref (adc 0)), (2, .ref (adm 0)), (3, .ref o)] [.long (R64 y), .long (R64 (upc h q nr x z))]
    refine V.lcmpE C dL_law_1016 (by rw [hy h1007]) ?_
    show V D 7 A p l e room_1 s m args below meth c Q (k + 6) (n + 36) (ml cy adm Mm2 ++ wx cy sa o f2 adc nr Mc2) 1017 [(6, vi y), (5, vi (kDP x z)), (4, vi i), (0, .ref b), (1, .ref (adc 0)), (2, .ref (adm 0)), (3, .ref o)] [vi 0]
    refine V.if_eq C 1022 dL_law_1017 (by decide) ⟨by decide, by decide⟩ (fun h1017 => ?_) (fun h1017 => (by exact absurd h1017 (by decide)))
    refine V.goto C 1757 dL_law_1022 (by decide) ?_
    exact V.sub [2, 3, 4, 5, 6] rfl (kk _ _ (by omega) (by omega) f2 adc adm nr Mc2 Mm2 h td q rq nd rfl rfl (e0 h1007).2 hm hcl)
set_option maxHeartbeats 4000000 in
set_option maxRecDepth 100000 in
theorem law_c14 {p : Program} {l : Launch} {e : Env} {s : State} {m : MethodId} {args : Array Value} {below : List Frame} {meth : Method} {c : Code} {D : va_G} {cy : Nat → ClassId} {sa : Nat → Addr} {A : Nat → Prop} {Q : State → Prop} (hfl : l.stackTraces = false) (C : Cx D cy sa RL cL_law 7 (some .boolean) A p l s m args meth c) {b L : Nat} {xs : Nat → Int32} (hX : va_X b L xs s s.heap) (hbl : b < s.heap.size) (hbA : ¬ A b) (hL : L ≤ 3584) {k n : Nat} (hk : k + 20 ≤ room_1.cells) (hn9 : n + 1000 ≤ room_1.slots) {o a1 a2 : Nat} {i : Int} (i0 : 0 ≤ i) (i1 : i + 7 ≤ (L : Int)) (kk : ∀ k2 n2 : Nat, k2 ≤ k + 20 → n2 ≤ n + 1000 → LV D cy sa A p l e s m args below meth c Q b o a1 a2 k2 n2 1757 [(4, vi i)] []) : LV D cy sa A p l e s m args below meth c Q b o a1 a2 k n 1025 [(4, vi i)] [] := by
  intro f adc adm nr Mc Mm h td q rq nd rfl rfl hci hmi hcl
  obtain ⟨x, hx⟩ : ∃ y, y = (xs (i + 1).toNat).toInt := ⟨_, rfl⟩
  have rx : inR x := by rw [hx]; exact zI_inR _
  show V D 7 A p l e room_1 s m args below meth c Q k n (ml cy adm Mm ++ wx cy sa o f adc nr Mc) 1025 [(4, vi i), (0, .ref b), (1, .ref (adc 0)), (2, .ref (adm 0)), (3, .ref o)] []
  refine V.aload_n C dL_law_1025 2 rfl ?_
  refine V.aload_n C dL_law_1026 1 rfl ?_
  refine V.iload C dL_law_1027 0 rfl ?_
  refine V.iconst C dL_law_1029 ?_
  refine V.iadd C dL_law_1030 ?_
  refine V.sldE C hX hbl hbA (by omega) (v := x) (by omega) (by omega) hx dL_law_1031 ?_
  refine V.aload_n C dL_law_1032 4 rfl ?_
  refine V.callSX C (As := [.ref (adc 0), vi x, .ref o]) (st := []) (wr := ml cy adm Mm) kX_L_150 (l_finish l D cy sa hfl o f adc nr Mc h td q rq nd hci x rx) rfl rfl rfl (Nat.le_of_ble_eq_true rfl) ⟨by decide, by decide⟩ ⟨by omega, by omega⟩ dL_law_1033 (fun v1 w1 r1 => ?_)
  obtain ⟨rfl, f2, Mc2, hw1, e0, e1⟩ := r1
  rw [hw1]
  show V D 7 A p l e room_1 s m args below meth c Q (k + 6) (n + 36) (ml cy adm Mm ++ wx cy sa o f2 adc nr Mc2) 1036 [(4, vi i), (0, .ref b), (1, .ref (adc 0)), (2, .ref (adm 0)), (3, .ref o)] [vi (kFin h nr q rq x)]
  have hkr := kFin_rng  h nr q rq x
  refine V.istore C (lc2 := [(5, vi (kFin h nr q rq x)), (4, vi i), (0, .ref b), (1, .ref (adc 0)), (2, .ref (adm 0)), (3, .ref o)]) dL_law_1036 (by decide) rfl ?_
  refine V.aload_n C dL_law_1038 4 rfl ?_
  refine V.aload_n C dL_law_1039 2 rfl ?_
  refine V.iload C dL_law_1040 1 rfl ?_
  refine V.iconst C dL_law_1042 ?_
  refine V.iadd C dL_law_1043 ?_
  refine V.sldE C hX hbl hbA (by omega) (v := x) (by omega) (by omega) hx dL_law_1044 ?_
  refine V.perm List.perm_append_comm ?_
  refine V.callVc C (wr := wx cy sa o f2 adc nr Mc2) (As := [vi x]) (st := []) (b := adm 0) kV_L_152 (c_m_finish l D cy sa hfl adm Mm h td nr q rq hmi  x rx) 0 rfl rfl rfl rfl (Nat.le_of_ble_eq_true rfl) ⟨by decide, by decide⟩ ⟨by omega, by omega⟩ dL_law_1045 (fun _ _ h => h.elim) (fun v2 w2 r2 => ?_)
  obtain ⟨y, rfl, hy, Mm2, hw2, ht, hm⟩ := r2
  rw [hw2]
  refine V.perm List.perm_append_comm ?_
  show V D 7 A p l e room_1 s m args below meth c Q (k + 6) (n + 36) (ml cy adm Mm2 ++ wx cy sa o f2 adc nr Mc2) 1048 [(5, vi (kFin h nr q rq x)), (4, vi i), (0, .ref b), (1, .ref (adc 0)), (2, .ref (adm 0)), (3, .ref o)] [vi y]
  refine V.istore C (lc2 := [(6, vi y), (5, vi (kFin h nr q rq x)), (4, vi i), (0, .ref b), (1, .ref (adc 0)), (2, .ref (adm 0)), (3, .ref o)]) dL_law_1048 (by decide) rfl ?_
  refine V.aload_n C dL_law_1050 5 rfl ?_
  refine V.perm List.perm_append_comm ?_
  refine V.callVc C (wr := wx cy sa o f2 adc nr Mc2) (As := []) (st := []) (b := adm 0) kV_L_103 (c_m_thrown l D cy sa hfl adm Mm2) 0 rfl rfl rfl rfl (Nat.le_of_ble_eq_true rfl) ⟨by decide, by decide⟩ ⟨by omega, by omega⟩ dL_law_1051 (fun _ _ h => h.elim) (fun v3 w3 r3 => ?_)
  obtain ⟨rfl, hw3⟩ := r3
  rw [hw3, ht]
  refine V.perm List.perm_append_comm ?_
  show V D 7 A p l e room_1 s m args below meth c Q (k + 6) (n + 36) (ml cy adm Mm2 ++ wx cy sa o f2 adc nr Mc2) 1054 [(6, vi y), (5, vi (kFin h nr q rq x)), (4, vi i), (0, .ref b), (1, .ref (adc 0)), (2, .ref (adm 0)), (3, .ref o)] [vi (kFin h nr q rq x)]
  refine V.iload C dL_law_1054 1 rfl ?_
  refine V.icmp_eq C 1061 dL_law_1056 (by decide) ⟨by omega, by omega⟩ ⟨by omega, by omega⟩ (fun h1056 => ?_) (fun h1056 => (by exact absurd rfl h1056))
  refine V.iload C dL_law_1061 1 rfl ?_
  refine V.if_ne C 1078 dL_law_1063 (by decide) ⟨by omega, by omega⟩ (fun h1063 => ?_) (fun h1063 => ?_)
  · skip
    refine V.goto C 1757 dL_law_1078 (by decide) ?_
    exact V.sub [2, 3, 4, 5, 6] rfl (kk _ _ (by omega) (by omega) f2 adc adm nr Mc2 Mm2 h td q rq nd rfl rfl (e1 h1063) (hm.2 h1063) hcl)
  · skip
    refine V.aload_n C dL_law_1066 6 rfl ?_
    refine V.iconst C dL_law_1067 ?_
    refine V.lald C (v := R64 (td - fo h q x.toNat)) 16 rfl (by decide) (by decide) (by decide) (e0 h1063).1 dL_law_1068 ?_
    show V D 7 A p l e room_1 s m args below meth c Q (k + 6) (n + 36) (ml cy adm Mm2 ++ wx cy sa o f2 adc nr Mc2) 1069 [(6, vi y), (5, vi (kFin h nr q rq x)), (4, vi i), (0, .ref b), (1, .ref (adc 0)), (2, .ref (adm 0)), (3, .ref o)] [.long (R64 (td - fo h q x.toNat))]
    refine V.iload C dL_law_1069 0 rfl ?_
    refine V.i2l C dL_law_1071 ?_
    show V D 7 A p l e room_1 s m args below meth c Q (k + 6) (n + 36) (ml cy adm Mm2 ++ wx cy sa o f2 adc nr Mc2) 1072 [(6, vi y), (5, vi (kFin h nr q rq x)), (4, vi i), (0, .ref b), (1, .ref (adc 0)), (2, .ref (adm 0)), (3, .ref o)] [.long (R64 y), .long (R64 (td - fo h q x.toNat))]
    refine V.lcmpE C dL_law_1072 (by rw [hy h1063]) ?_
    show V D 7 A p l e room_1 s m args below meth c Q (k + 6) (n + 36) (ml cy adm Mm2 ++ wx cy sa o f2 adc nr Mc2) 1073 [(6, vi y), (5, vi (kFin h nr q rq x)), (4, vi i), (0, .ref b), (1, .ref (adc 0)), (2, .ref (adm 0)), (3, .ref o)] [vi 0]
    refine V.if_eq C 1078 dL_law_1073 (by decide) ⟨by decide, by decide⟩ (fun h1073 => ?_) (fun h1073 => (by exact absurd h1073 (by decide)))
    refine V.goto C 1757 dL_law_1078 (by decide) ?_
    exact V.sub [2, 3, 4, 5, 6] rfl (kk _ _ (by omega) (by omega) f2 adc adm nr Mc2 Mm2 _ _ _ _ _ rfl rfl (e0 h1063).2 (hm.1 h1063) hcl)
set_option maxHeartbeats 4000000 in
set_option maxRecDepth 100000 in
theorem law_c15 {p : Program} {l : Launch} {e : Env} {s : State} {m : MethodId} {args : Array Value} {below : List Frame} {meth : Method} {c : Code} {D : va_G} {cy : Nat → ClassId} {sa : Nat → Addr} {A : Nat → Prop} {Q : State → Prop} (hfl : l.stackTraces = false) (C : Cx D cy sa RL cL_law 7 (some .boolean) A p l s m args meth c) {b L : Nat} {xs : Nat → Int32} (hX : va_X b L xs s s.heap) (hbl : b < s.heap.size) (hbA : ¬ A b) (hL : L ≤ 3584) {k n : Nat} (hk : k + 20 ≤ room_1.cells) (hn9 : n + 1000 ≤ room_1.slots) {o a1 a2 : Nat} {i : Int} (i0 : 0 ≤ i) (i1 : i + 7 ≤ (L : Int)) (kk : ∀ k2 n2 : Nat, k2 ≤ k + 20 → n2 ≤ n + 1000 → LV D cy sa A p l e s m args below meth c Q b o a1 a2 k2 n2 1757 [(4, vi i)] []) : LV D cy sa A p l e s m args below meth c Q b o a1 a2 k n 1081 [(4, vi i)] [] := by
  intro f adc adm nr Mc Mm h td q rq nd rfl rfl hci hmi hcl
  obtain ⟨x, hx⟩ : ∃ y, y = (xs (i + 1).toNat).toInt := ⟨_, rfl⟩
  have rx : inR x := by rw [hx]; exact zI_inR _
  show V D 7 A p l e room_1 s m args below meth c Q k n (ml cy adm Mm ++ wx cy sa o f adc nr Mc) 1081 [(4, vi i), (0, .ref b), (1, .ref (adc 0)), (2, .ref (adm 0)), (3, .ref o)] []
  refine V.aload_n C dL_law_1081 2 rfl ?_
  refine V.aload_n C dL_law_1082 1 rfl ?_
  refine V.iload C dL_law_1083 0 rfl ?_
  refine V.iconst C dL_law_1085 ?_
  refine V.iadd C dL_law_1086 ?_
  refine V.sldE C hX hbl hbA (by omega) (v := x) (by omega) (by omega) hx dL_law_1087 ?_
  refine V.aload_n C dL_law_1088 4 rfl ?_
  refine V.callSX C (As := [.ref (adc 0), vi x, .ref o]) (st := []) (wr := ml cy adm Mm) kX_L_153 (l_open l D cy sa hfl o f adc nr Mc h td q rq nd hci x rx) rfl rfl rfl (Nat.le_of_ble_eq_true rfl) ⟨by decide, by decide⟩ ⟨by omega, by omega⟩ dL_law_1089 (fun v1 w1 r1 => ?_)
  obtain ⟨rfl, f2, Mc2, hw1, e0, e1⟩ := r1
  rw [hw1]
  show V D 7 A p l e room_1 s m args below meth c Q (k + 6) (n + 36) (ml cy adm Mm ++ wx cy sa o f2 adc nr Mc2) 1092 [(4, vi i), (0, .ref b), (1, .ref (adc 0)), (2, .ref (adm 0)), (3, .ref o)] [vi (kRule nr x)]
  have hkr := kRule_rng  nr x
  refine V.istore C (lc2 := [(5, vi (kRule nr x)), (4, vi i), (0, .ref b), (1, .ref (adc 0)), (2, .ref (adm 0)), (3, .ref o)]) dL_law_1092 (by decide) rfl ?_
  refine V.aload_n C dL_law_1094 4 rfl ?_
  refine V.aload_n C dL_law_1095 2 rfl ?_
  refine V.iload C dL_law_1096 1 rfl ?_
  refine V.iconst C dL_law_1098 ?_
  refine V.iadd C dL_law_1099 ?_
  refine V.sldE C hX hbl hbA (by omega) (v := x) (by omega) (by omega) hx dL_law_1100 ?_
  refine V.perm List.perm_append_comm ?_
  refine V.callVc C (wr := wx cy sa o f2 adc nr Mc2) (As := [vi x]) (st := []) (b := adm 0) kV_L_155 (c_m_open l D cy sa hfl adm Mm h td nr q rq hmi  x rx) 0 rfl rfl rfl rfl (Nat.le_of_ble_eq_true rfl) ⟨by decide, by decide⟩ ⟨by omega, by omega⟩ dL_law_1101 (fun _ _ h => h.elim) (fun v2 w2 r2 => ?_)
  obtain ⟨y, rfl, hy, Mm2, hw2, ht, hm⟩ := r2
  rw [hw2]
  refine V.perm List.perm_append_comm ?_
  show V D 7 A p l e room_1 s m args below meth c Q (k + 6) (n + 36) (ml cy adm Mm2 ++ wx cy sa o f2 adc nr Mc2) 1104 [(5, vi (kRule nr x)), (4, vi i), (0, .ref b), (1, .ref (adc 0)), (2, .ref (adm 0)), (3, .ref o)] [vi y]
  refine V.istore C (lc2 := [(6, vi y), (5, vi (kRule nr x)), (4, vi i), (0, .ref b), (1, .ref (adc 0)), (2, .ref (adm 0)), (3, .ref o)]) dL_law_1104 (by decide) rfl ?_
  refine V.aload_n C dL_law_1106 5 rfl ?_
  refine V.perm List.perm_append_comm ?_
  refine V.callVc C (wr := wx cy sa o f2 adc nr Mc2) (As := []) (st := []) (b := adm 0) kV_L_103 (c_m_thrown l D cy sa hfl adm Mm2) 0 rfl rfl rfl rfl (Nat.le_of_ble_eq_true rfl) ⟨by decide, by decide⟩ ⟨by omega, by omega⟩ dL_law_1107 (fun _ _ h => h.elim) (fun v3 w3 r3 => ?_)
  obtain ⟨rfl, hw3⟩ := r3
  rw [hw3, ht]
  refine V.perm List.perm_append_comm ?_
  show V D 7 A p l e room_1 s m args below meth c Q (k + 6) (n + 36) (ml cy adm Mm2 ++ wx cy sa o f2 adc nr Mc2) 1110 [(6, vi y), (5, vi (kRule nr x)), (4, vi i), (0, .ref b), (1, .ref (adc 0)), (2, .ref (adm 0)), (3, .ref o)] [vi (kRule nr x)]
  refine V.iload C dL_law_1110 1 rfl ?_
  refine V.icmp_eq C 1117 dL_law_1112 (by decide) ⟨by omega, by omega⟩ ⟨by omega, by omega⟩ (fun h1112 => ?_) (fun h1112 => (by exact absurd rfl h1112))
  refine V.iload C dL_law_1117 1 rfl ?_
  refine V.if_ne C 1134 dL_law_1119 (by decide) ⟨by omega, by omega⟩ (fun h1119 => ?_) (fun h1119 => ?_)
  · skip
    refine V.goto C 1757 dL_law_1134 (by decide) ?_
    exact V.sub [2, 3, 4, 5, 6] rfl (kk _ _ (by omega) (by omega) f2 adc adm nr Mc2 Mm2 h td q rq nd rfl rfl (e1 h1119) hm hcl)
  · skip
    refine V.aload_n C dL_law_1122 6 rfl ?_
    refine V.iconst C dL_law_1123 ?_
    refine V.lald C (v := R64 (dk (dueR h (q x.toNat)) 0 (q x.toNat 8))) 16 rfl (by decide) (by decide) (by decide) (e0 h1119).1 dL_law_1124 ?_
    show V D 7 A p l e room_1 s m args below meth c Q (k + 6) (n + 36) (ml cy adm Mm2 ++ wx cy sa o f2 adc nr Mc2) 1125 [(6, vi y), (5, vi (kRule nr x)), (4, vi i), (0, .ref b), (1, .ref (adc 0)), (2, .ref (adm 0)), (3, .ref o)] [.long (R64 (dk (dueR h (q x.toNat)) 0 (q x.toNat 8)))]
    refine V.iload C dL_law_1125 0 rfl ?_
    refine V.i2l C dL_law_1127 ?_
    show V D 7 A p l e room_1 s m args below meth c Q (k + 6) (n + 36) (ml cy adm Mm2 ++ wx cy sa o f2 adc nr Mc2) 1128 [(6, vi y), (5, vi (kRule nr x)), (4, vi i), (0, .ref b), (1, .ref (adc 0)), (2, .ref (adm 0)), (3, .ref o)] [.long (R64 y), .long (R64 (dk (dueR h (q x.toNat)) 0 (q x.toNat 8)))]
    refine V.lcmpE C dL_law_1128 (by rw [hy h1119]) ?_
    show V D 7 A p l e room_1 s m args below meth c Q (k + 6) (n + 36) (ml cy adm Mm2 ++ wx cy sa o f2 adc nr Mc2) 1129 [(6, vi y), (5, vi (kRule nr x)), (4, vi i), (0, .ref b), (1, .ref (adc 0)), (2, .ref (adm 0)), (3, .ref o)] [vi 0]
    refine V.if_eq C 1134 dL_law_1129 (by decide) ⟨by decide, by decide⟩ (fun h1129 => ?_) (fun h1129 => (by exact absurd h1129 (by decide)))
    refine V.goto C 1757 dL_law_1134 (by decide) ?_
    exact V.sub [2, 3, 4, 5, 6] rfl (kk _ _ (by omega) (by omega) f2 adc adm nr Mc2 Mm2 h td q rq nd rfl rfl (e0 h1119).2 hm hcl)
set_option maxHeartbeats 4000000 in
set_option maxRecDepth 100000 in
theorem law_c16 {p : Program} {l : Launch} {e : Env} {s : State} {m : MethodId} {args : Array Value} {below : List Frame} {meth : Method} {c : Code} {D : va_G} {cy : Nat → ClassId} {sa : Nat → Addr} {A : Nat → Prop} {Q : State → Prop} (hfl : l.stackTraces = false) (C : Cx D cy sa RL cL_law 7 (some .boolean) A p l s m args meth c) {b L : Nat} {xs : Nat → Int32} (hX : va_X b L xs s s.heap) (hbl : b < s.heap.size) (hbA : ¬ A b) (hL : L ≤ 3584) {k n : Nat} (hk : k + 20 ≤ room_1.cells) (hn9 : n + 1000 ≤ room_1.slots) {o a1 a2 : Nat} {i : Int} (i0 : 0 ≤ i) (i1 : i + 7 ≤ (L : Int)) (kk : ∀ k2 n2 : Nat, k2 ≤ k + 20 → n2 ≤ n + 1000 → LV D cy sa A p l e s m args below meth c Q b o a1 a2 k2 n2 1757 [(4, vi i)] []) : LV D cy sa A p l e s m args below meth c Q b o a1 a2 k n 1137 [(4, vi i)] [] := by
  intro f adc adm nr Mc Mm h td q rq nd rfl rfl hci hmi hcl
  obtain ⟨x, hx⟩ : ∃ y, y = (xs (i + 1).toNat).toInt := ⟨_, rfl⟩
  have rx : inR x := by rw [hx]; exact zI_inR _
  show V D 7 A p l e room_1 s m args below meth c Q k n (ml cy adm Mm ++ wx cy sa o f adc nr Mc) 1137 [(4, vi i), (0, .ref b), (1, .ref (adc 0)), (2, .ref (adm 0)), (3, .ref o)] []
  refine V.aload_n C dL_law_1137 2 rfl ?_
  refine V.aload_n C dL_law_1138 1 rfl ?_
  refine V.iload C dL_law_1139 0 rfl ?_
  refine V.iconst C dL_law_1141 ?_
  refine V.iadd C dL_law_1142 ?_
  refine V.sldE C hX hbl hbA (by omega) (v := x) (by omega) (by omega) hx dL_law_1143 ?_
  refine V.aload_n C dL_law_1144 4 rfl ?_
  refine V.callSX C (As := [.ref (adc 0), vi x, .ref o]) (st := []) (wr := ml cy adm Mm) kX_L_156 (l_finished l D cy sa hfl o f adc nr Mc h td q rq nd hci x rx) rfl rfl rfl (Nat.le_of_ble_eq_true rfl) ⟨by decide, by decide⟩ ⟨by omega, by omega⟩ dL_law_1145 (fun v1 w1 r1 => ?_)
  obtain ⟨rfl, f2, Mc2, hw1, e0, e1⟩ := r1
  rw [hw1]
  show V D 7 A p l e room_1 s m args below meth c Q (k + 6) (n + 36) (ml cy adm Mm ++ wx cy sa o f2 adc nr Mc2) 1148 [(4, vi i), (0, .ref b), (1, .ref (adc 0)), (2, .ref (adm 0)), (3, .ref o)] [vi (kRule nr x)]
  have hkr := kRule_rng  nr x
  refine V.istore C (lc2 := [(5, vi (kRule nr x)), (4, vi i), (0, .ref b), (1, .ref (adc 0)), (2, .ref (adm 0)), (3, .ref o)]) dL_law_1148 (by decide) rfl ?_
  refine V.aload_n C dL_law_1150 4 rfl ?_
  refine V.aload_n C dL_law_1151 2 rfl ?_
  refine V.iload C dL_law_1152 1 rfl ?_
  refine V.iconst C dL_law_1154 ?_
  refine V.iadd C dL_law_1155 ?_
  refine V.sldE C hX hbl hbA (by omega) (v := x) (by omega) (by omega) hx dL_law_1156 ?_
  refine V.perm List.perm_append_comm ?_
  refine V.callVc C (wr := wx cy sa o f2 adc nr Mc2) (As := [vi x]) (st := []) (b := adm 0) kV_L_158 (c_m_finished l D cy sa hfl adm Mm h td nr q rq hmi  x rx) 0 rfl rfl rfl rfl (Nat.le_of_ble_eq_true rfl) ⟨by decide, by decide⟩ ⟨by omega, by omega⟩ dL_law_1157 (fun _ _ h => h.elim) (fun v2 w2 r2 => ?_)
  obtain ⟨y, rfl, hy, Mm2, hw2, ht, hm⟩ := r2
  rw [hw2]
  refine V.perm List.perm_append_comm ?_
  show V D 7 A p l e room_1 s m args below meth c Q (k + 6) (n + 36) (ml cy adm Mm2 ++ wx cy sa o f2 adc nr Mc2) 1160 [(5, vi (kRule nr x)), (4, vi i), (0, .ref b), (1, .ref (adc 0)), (2, .ref (adm 0)), (3, .ref o)] [vi y]
  refine V.istore C (lc2 := [(6, vi y), (5, vi (kRule nr x)), (4, vi i), (0, .ref b), (1, .ref (adc 0)), (2, .ref (adm 0)), (3, .ref o)]) dL_law_1160 (by decide) rfl ?_
  refine V.aload_n C dL_law_1162 5 rfl ?_
  refine V.perm List.perm_append_comm ?_
  refine V.callVc C (wr := wx cy sa o f2 adc nr Mc2) (As := []) (st := []) (b := adm 0) kV_L_103 (c_m_thrown l D cy sa hfl adm Mm2) 0 rfl rfl rfl rfl (Nat.le_of_ble_eq_true rfl) ⟨by decide, by decide⟩ ⟨by omega, by omega⟩ dL_law_1163 (fun _ _ h => h.elim) (fun v3 w3 r3 => ?_)
  obtain ⟨rfl, hw3⟩ := r3
  rw [hw3, ht]
  refine V.perm List.perm_append_comm ?_
  show V D 7 A p l e room_1 s m args below meth c Q (k + 6) (n + 36) (ml cy adm Mm2 ++ wx cy sa o f2 adc nr Mc2) 1166 [(6, vi y), (5, vi (kRule nr x)), (4, vi i), (0, .ref b), (1, .ref (adc 0)), (2, .ref (adm 0)), (3, .ref o)] [vi (kRule nr x)]
  refine V.iload C dL_law_1166 1 rfl ?_
  refine V.icmp_eq C 1173 dL_law_1168 (by decide) ⟨by omega, by omega⟩ ⟨by omega, by omega⟩ (fun h1168 => ?_) (fun h1168 => (by exact absurd rfl h1168))
  refine V.iload C dL_law_1173 1 rfl ?_
  refine V.if_ne C 1190 dL_law_1175 (by decide) ⟨by omega, by omega⟩ (fun h1175 => ?_) (fun h1175 => ?_)
  · skip
    refine V.goto C 1757 dL_law_1190 (by decide) ?_
    exact V.sub [2, 3, 4, 5, 6] rfl (kk _ _ (by omega) (by omega) f2 adc adm nr Mc2 Mm2 h td q rq nd rfl rfl (e1 h1175) hm hcl)
  · skip
    refine V.aload_n C dL_law_1178 6 rfl ?_
    refine V.iconst C dL_law_1179 ?_
    refine V.lald C (v := R64 (q x.toNat 8)) 16 rfl (by decide) (by decide) (by decide) (e0 h1175).1 dL_law_1180 ?_
    show V D 7 A p l e room_1 s m args below meth c Q (k + 6) (n + 36) (ml cy adm Mm2 ++ wx cy sa o f2 adc nr Mc2) 1181 [(6, vi y), (5, vi (kRule nr x)), (4, vi i), (0, .ref b), (1, .ref (adc 0)), (2, .ref (adm 0)), (3, .ref o)] [.long (R64 (q x.toNat 8))]
    refine V.iload C dL_law_1181 0 rfl ?_
    refine V.i2l C dL_law_1183 ?_
    show V D 7 A p l e room_1 s m args below meth c Q (k + 6) (n + 36) (ml cy adm Mm2 ++ wx cy sa o f2 adc nr Mc2) 1184 [(6, vi y), (5, vi (kRule nr x)), (4, vi i), (0, .ref b), (1, .ref (adc 0)), (2, .ref (adm 0)), (3, .ref o)] [.long (R64 y), .long (R64 (q x.toNat 8))]
    refine V.lcmpE C dL_law_1184 (by rw [hy h1175]) ?_
    show V D 7 A p l e room_1 s m args below meth c Q (k + 6) (n + 36) (ml cy adm Mm2 ++ wx cy sa o f2 adc nr Mc2) 1185 [(6, vi y), (5, vi (kRule nr x)), (4, vi i), (0, .ref b), (1, .ref (adc 0)), (2, .ref (adm 0)), (3, .ref o)] [vi 0]
    refine V.if_eq C 1190 dL_law_1185 (by decide) ⟨by decide, by decide⟩ (fun h1185 => ?_) (fun h1185 => (by exact absurd h1185 (by decide)))
    refine V.goto C 1757 dL_law_1190 (by decide) ?_
    exact V.sub [2, 3, 4, 5, 6] rfl (kk _ _ (by omega) (by omega) f2 adc adm nr Mc2 Mm2 h td q rq nd rfl rfl (e0 h1175).2 hm hcl)
set_option maxHeartbeats 4000000 in
set_option maxRecDepth 100000 in
theorem law_c17 {p : Program} {l : Launch} {e : Env} {s : State} {m : MethodId} {args : Array Value} {below : List Frame} {meth : Method} {c : Code} {D : va_G} {cy : Nat → ClassId} {sa : Nat → Addr} {A : Nat → Prop} {Q : State → Prop} (hfl : l.stackTraces = false) (C : Cx D cy sa RL cL_law 7 (some .boolean) A p l s m args meth c) {b L : Nat} {xs : Nat → Int32} (hX : va_X b L xs s s.heap) (hbl : b < s.heap.size) (hbA : ¬ A b) (hL : L ≤ 3584) {k n : Nat} (hk : k + 20 ≤ room_1.cells) (hn9 : n + 1000 ≤ room_1.slots) {o a1 a2 : Nat} {i : Int} (i0 : 0 ≤ i) (i1 : i + 7 ≤ (L : Int)) (kk : ∀ k2 n2 : Nat, k2 ≤ k + 20 → n2 ≤ n + 1000 → LV D cy sa A p l e s m args below meth c Q b o a1 a2 k2 n2 1757 [(4, vi i)] []) : LV D cy sa A p l e s m args below meth c Q b o a1 a2 k n 1193 [(4, vi i)] [] := by
  intro f adc adm nr Mc Mm h td q rq nd rfl rfl hci hmi hcl
  obtain ⟨x, hx⟩ : ∃ y, y = (xs (i + 1).toNat).toInt := ⟨_, rfl⟩
  have rx : inR x := by rw [hx]; exact zI_inR _
  show V D 7 A p l e room_1 s m args below meth c Q k n (ml cy adm Mm ++ wx cy sa o f adc nr Mc) 1193 [(4, vi i), (0, .ref b), (1, .ref (adc 0)), (2, .ref (adm 0)), (3, .ref o)] []
  refine V.aload_n C dL_law_1193 2 rfl ?_
  refine V.aload_n C dL_law_1194 1 rfl ?_
  refine V.iload C dL_law_1195 0 rfl ?_
  refine V.iconst C dL_law_1197 ?_
  refine V.iadd C dL_law_1198 ?_
  refine V.sldE C hX hbl hbA (by omega) (v := x) (by omega) (by omega) hx dL_law_1199 ?_
  refine V.aload_n C dL_law_1200 4 rfl ?_
  refine V.callSX C (As := [.ref (adc 0), vi x, .ref o]) (st := []) (wr := ml cy adm Mm) kX_L_159 (l_blockedBy l D cy sa hfl o f adc nr Mc h td q rq nd hci x rx) rfl rfl rfl (Nat.le_of_ble_eq_true rfl) ⟨by decide, by decide⟩ ⟨by omega, by omega⟩ dL_law_1201 (fun v1 w1 r1 => ?_)
  obtain ⟨rfl, f2, Mc2, hw1, e0, e1⟩ := r1
  rw [hw1]
  show V D 7 A p l e room_1 s m args below meth c Q (k + 6) (n + 36) (ml cy adm Mm ++ wx cy sa o f2 adc nr Mc2) 1204 [(4, vi i), (0, .ref b), (1, .ref (adc 0)), (2, .ref (adm 0)), (3, .ref o)] [vi (kRule nr x)]
  have hkr := kRule_rng  nr x
  refine V.istore C (lc2 := [(5, vi (kRule nr x)), (4, vi i), (0, .ref b), (1, .ref (adc 0)), (2, .ref (adm 0)), (3, .ref o)]) dL_law_1204 (by decide) rfl ?_
  refine V.aload_n C dL_law_1206 4 rfl ?_
  refine V.aload_n C dL_law_1207 2 rfl ?_
  refine V.iload C dL_law_1208 1 rfl ?_
  refine V.iconst C dL_law_1210 ?_
  refine V.iadd C dL_law_1211 ?_
  refine V.sldE C hX hbl hbA (by omega) (v := x) (by omega) (by omega) hx dL_law_1212 ?_
  refine V.perm List.perm_append_comm ?_
  refine V.callVc C (wr := wx cy sa o f2 adc nr Mc2) (As := [vi x]) (st := []) (b := adm 0) kV_L_161 (c_m_blockedBy l D cy sa hfl adm Mm h td nr q rq hmi  x rx) 0 rfl rfl rfl rfl (Nat.le_of_ble_eq_true rfl) ⟨by decide, by decide⟩ ⟨by omega, by omega⟩ dL_law_1213 (fun _ _ h => h.elim) (fun v2 w2 r2 => ?_)
  obtain ⟨y, rfl, hy, Mm2, hw2, ht, hm⟩ := r2
  rw [hw2]
  refine V.perm List.perm_append_comm ?_
  show V D 7 A p l e room_1 s m args below meth c Q (k + 6) (n + 36) (ml cy adm Mm2 ++ wx cy sa o f2 adc nr Mc2) 1216 [(5, vi (kRule nr x)), (4, vi i), (0, .ref b), (1, .ref (adc 0)), (2, .ref (adm 0)), (3, .ref o)] [vi y]
  refine V.istore C (lc2 := [(6, vi y), (5, vi (kRule nr x)), (4, vi i), (0, .ref b), (1, .ref (adc 0)), (2, .ref (adm 0)), (3, .ref o)]) dL_law_1216 (by decide) rfl ?_
  refine V.aload_n C dL_law_1218 5 rfl ?_
  refine V.perm List.perm_append_comm ?_
  refine V.callVc C (wr := wx cy sa o f2 adc nr Mc2) (As := []) (st := []) (b := adm 0) kV_L_103 (c_m_thrown l D cy sa hfl adm Mm2) 0 rfl rfl rfl rfl (Nat.le_of_ble_eq_true rfl) ⟨by decide, by decide⟩ ⟨by omega, by omega⟩ dL_law_1219 (fun _ _ h => h.elim) (fun v3 w3 r3 => ?_)
  obtain ⟨rfl, hw3⟩ := r3
  rw [hw3, ht]
  refine V.perm List.perm_append_comm ?_
  show V D 7 A p l e room_1 s m args below meth c Q (k + 6) (n + 36) (ml cy adm Mm2 ++ wx cy sa o f2 adc nr Mc2) 1222 [(6, vi y), (5, vi (kRule nr x)), (4, vi i), (0, .ref b), (1, .ref (adc 0)), (2, .ref (adm 0)), (3, .ref o)] [vi (kRule nr x)]
  refine V.iload C dL_law_1222 1 rfl ?_
  refine V.icmp_eq C 1229 dL_law_1224 (by decide) ⟨by omega, by omega⟩ ⟨by omega, by omega⟩ (fun h1224 => ?_) (fun h1224 => (by exact absurd rfl h1224))
  refine V.iload C dL_law_1229 1 rfl ?_
  refine V.if_ne C 1246 dL_law_1231 (by decide) ⟨by omega, by omega⟩ (fun h1231 => ?_) (fun h1231 => ?_)
  · skip
    refine V.goto C 1757 dL_law_1246 (by decide) ?_
    exact V.sub [2, 3, 4, 5, 6] rfl (kk _ _ (by omega) (by omega) f2 adc adm nr Mc2 Mm2 h td q rq nd rfl rfl (e1 h1231) hm hcl)
  · skip
    refine V.aload_n C dL_law_1234 6 rfl ?_
    refine V.iconst C dL_law_1235 ?_
    refine V.lald C (v := R64 (lb nr (rq x.toNat) (fo h q) (fo h q x.toNat))) 16 rfl (by decide) (by decide) (by decide) (e0 h1231).1 dL_law_1236 ?_
    show V D 7 A p l e room_1 s m args below meth c Q (k + 6) (n + 36) (ml cy adm Mm2 ++ wx cy sa o f2 adc nr Mc2) 1237 [(6, vi y), (5, vi (kRule nr x)), (4, vi i), (0, .ref b), (1, .ref (adc 0)), (2, .ref (adm 0)), (3, .ref o)] [.long (R64 (lb nr (rq x.toNat) (fo h q) (fo h q x.toNat)))]
    refine V.iload C dL_law_1237 0 rfl ?_
    refine V.i2l C dL_law_1239 ?_
    show V D 7 A p l e room_1 s m args below meth c Q (k + 6) (n + 36) (ml cy adm Mm2 ++ wx cy sa o f2 adc nr Mc2) 1240 [(6, vi y), (5, vi (kRule nr x)), (4, vi i), (0, .ref b), (1, .ref (adc 0)), (2, .ref (adm 0)), (3, .ref o)] [.long (R64 y), .long (R64 (lb nr (rq x.toNat) (fo h q) (fo h q x.toNat)))]
    refine V.lcmpE C dL_law_1240 (by rw [hy h1231]) ?_
    show V D 7 A p l e room_1 s m args below meth c Q (k + 6) (n + 36) (ml cy adm Mm2 ++ wx cy sa o f2 adc nr Mc2) 1241 [(6, vi y), (5, vi (kRule nr x)), (4, vi i), (0, .ref b), (1, .ref (adc 0)), (2, .ref (adm 0)), (3, .ref o)] [vi 0]
    refine V.if_eq C 1246 dL_law_1241 (by decide) ⟨by decide, by decide⟩ (fun h1241 => ?_) (fun h1241 => (by exact absurd h1241 (by decide)))
    refine V.goto C 1757 dL_law_1246 (by decide) ?_
    exact V.sub [2, 3, 4, 5, 6] rfl (kk _ _ (by omega) (by omega) f2 adc adm nr Mc2 Mm2 h td q rq nd rfl rfl (e0 h1231).2 hm hcl)
set_option maxHeartbeats 4000000 in
set_option maxRecDepth 100000 in
theorem law_c18 {p : Program} {l : Launch} {e : Env} {s : State} {m : MethodId} {args : Array Value} {below : List Frame} {meth : Method} {c : Code} {D : va_G} {cy : Nat → ClassId} {sa : Nat → Addr} {A : Nat → Prop} {Q : State → Prop} (hfl : l.stackTraces = false) (C : Cx D cy sa RL cL_law 7 (some .boolean) A p l s m args meth c) {b L : Nat} {xs : Nat → Int32} (hX : va_X b L xs s s.heap) (hbl : b < s.heap.size) (hbA : ¬ A b) (hL : L ≤ 3584) {k n : Nat} (hk : k + 20 ≤ room_1.cells) (hn9 : n + 1000 ≤ room_1.slots) {o a1 a2 : Nat} {i : Int} (i0 : 0 ≤ i) (i1 : i + 7 ≤ (L : Int)) (kk : ∀ k2 n2 : Nat, k2 ≤ k + 20 → n2 ≤ n + 1000 → LV D cy sa A p l e s m args below meth c Q b o a1 a2 k2 n2 1757 [(4, vi i)] []) : LV D cy sa A p l e s m args below meth c Q b o a1 a2 k n 1249 [(4, vi i)] [] := by
  intro f adc adm nr Mc Mm h td q rq nd rfl rfl hci hmi hcl
  have rg : inR (sumN (late h q td) nr) := late_inR hci
  show V D 7 A p l e room_1 s m args below meth c Q k n (ml cy adm Mm ++ wx cy sa o f adc nr Mc) 1249 [(4, vi i), (0, .ref b), (1, .ref (adc 0)), (2, .ref (adm 0)), (3, .ref o)] []
  refine V.aload_n C dL_law_1249 2 rfl ?_
  refine V.perm (ws2 := (ml cy adm Mm ++ [(o, .inl (cy 3, 1, .inr (.inl f)))]) ++ cl cy (sa 100) adc nr Mc) (List.Perm.of_eq (List.append_assoc _ _ _).symm) ?_
  refine V.callVc (R := room_1) (k := k) (n := n) C (wr := ml cy adm Mm ++ [(o, .inl (cy 3, 1, .inr (.inl f)))]) (As := []) (st := []) (b := adc 0) kV_L_162 (c_overdue l D cy sa hfl adc nr Mc h td q rq nd hci) 0 cl_0 rfl rfl rfl (Nat.le_of_ble_eq_true rfl) ⟨by decide, by decide⟩ ⟨by omega, by omega⟩ dL_law_1250 (fun _ _ h => h.elim) (fun v1 w1 r1 => ?_)
  obtain ⟨rfl, Mc2, hw1, hc2⟩ := r1
  rw [hw1]
  refine V.perm (List.Perm.of_eq (List.append_assoc _ _ _)) ?_
  show V D 7 A p l e room_1 s m args below meth c Q (k + 6) (n + 36) (ml cy adm Mm ++ wx cy sa o f adc nr Mc2) 1253 [(4, vi i), (0, .ref b), (1, .ref (adc 0)), (2, .ref (adm 0)), (3, .ref o)] [vi (sumN (late h q td) nr)]
  refine V.aload_n C dL_law_1253 3 rfl ?_
  refine V.perm List.perm_append_comm ?_
  refine V.callVc C (wr := wx cy sa o f adc nr Mc2) (As := []) (st := [vi (sumN (late h q td) nr)]) (b := adm 0) kV_L_165 (c_m_overdue l D cy sa hfl adm Mm h td nr q rq hmi  ) 0 rfl rfl rfl rfl (Nat.le_of_ble_eq_true rfl) ⟨by decide, by decide⟩ ⟨by omega, by omega⟩ dL_law_1254 (fun _ _ h => h.elim) (fun v2 w2 r2 => ?_)
  obtain ⟨rfl, Mm2, hw2, hm⟩ := r2
  rw [hw2]
  refine V.perm List.perm_append_comm ?_
  show V D 7 A p l e room_1 s m args below meth c Q (k + 6) (n + 36) (ml cy adm Mm2 ++ wx cy sa o f adc nr Mc2) 1257 [(4, vi i), (0, .ref b), (1, .ref (adc 0)), (2, .ref (adm 0)), (3, .ref o)] [vi (sumN (late h q td) nr), vi (sumN (late h q td) nr)]
  refine V.icmp_eq C 1757 dL_law_1257 (by decide) rg rg (fun h1257 => ?_) (fun h1257 => (by exact absurd rfl h1257))
  exact V.sub [0, 1, 2, 3, 4] rfl (kk _ _ (by omega) (by omega) f adc adm nr Mc2 Mm2 h td q rq nd rfl rfl hc2 hm hcl)
set_option maxHeartbeats 4000000 in
set_option maxRecDepth 100000 in
theorem law_c19 {p : Program} {l : Launch} {e : Env} {s : State} {m : MethodId} {args : Array Value} {below : List Frame} {meth : Method} {c : Code} {D : va_G} {cy : Nat → ClassId} {sa : Nat → Addr} {A : Nat → Prop} {Q : State → Prop} (hfl : l.stackTraces = false) (C : Cx D cy sa RL cL_law 7 (some .boolean) A p l s m args meth c) {b L : Nat} {xs : Nat → Int32} (hX : va_X b L xs s s.heap) (hbl : b < s.heap.size) (hbA : ¬ A b) (hL : L ≤ 3584) {k n : Nat} (hk : k + 20 ≤ room_1.cells) (hn9 : n + 1000 ≤ room_1.slots) {o a1 a2 : Nat} {i : Int} (i0 : 0 ≤ i) (i1 : i + 7 ≤ (L : Int)) (kk : ∀ k2 n2 : Nat, k2 ≤ k + 20 → n2 ≤ n + 1000 → LV D cy sa A p l e s m args below meth c Q b o a1 a2 k2 n2 1757 [(4, vi i)] []) : LV D cy sa A p l e s m args below meth c Q b o a1 a2 k n 1262 [(4, vi i)] [] := by
  intro f adc adm nr Mc Mm h td q rq nd rfl rfl hci hmi hcl
  obtain ⟨x, hx⟩ : ∃ y, y = (xs (i + 1).toNat).toInt := ⟨_, rfl⟩
  have rx : inR x := by rw [hx]; exact zI_inR _
  obtain ⟨z, hz⟩ : ∃ y, y = (xs (i + 2).toNat).toInt := ⟨_, rfl⟩
  have rz : inR z := by rw [hz]; exact zI_inR _
  show V D 7 A p l e room_1 s m args below meth c Q k n (ml cy adm Mm ++ wx cy sa o f adc nr Mc) 1262 [(4, vi i), (0, .ref b), (1, .ref (adc 0)), (2, .ref (adm 0)), (3, .ref o)] []
  refine V.aload_n C dL_law_1262 2 rfl ?_
  refine V.aload_n C dL_law_1263 1 rfl ?_
  refine V.iload C dL_law_1264 0 rfl ?_
  refine V.iconst C dL_law_1266 ?_
  refine V.iadd C dL_law_1267 ?_
  refine V.sldE C hX hbl hbA (by omega) (v := x) (by omega) (by omega) hx dL_law_1268 ?_
  refine V.aload_n C dL_law_1269 1 rfl ?_
  refine V.iload C dL_law_1270 0 rfl ?_
  refine V.iconst C dL_law_1272 ?_
  refine V.iadd C dL_law_1273 ?_
  refine V.sldE C hX hbl hbA (by omega) (v := z) (by omega) (by omega) hz dL_law_1274 ?_
  refine V.aload_n C dL_law_1275 4 rfl ?_
  refine V.callSX C (As := [.ref (adc 0), vi x, vi z, .ref o]) (st := []) (wr := ml cy adm Mm) kX_L_166 (l_order l D cy sa hfl o f adc nr Mc h td q rq nd hci x rx z rz) rfl rfl rfl (Nat.le_of_ble_eq_true rfl) ⟨by decide, by decide⟩ ⟨by omega, by omega⟩ dL_law_1276 (fun v1 w1 r1 => ?_)
  obtain ⟨rfl, f2, Mc2, hw1, e0, e1⟩ := r1
  rw [hw1]
  show V D 7 A p l e room_1 s m args below meth c Q (k + 6) (n + 36) (ml cy adm Mm ++ wx cy sa o f2 adc nr Mc2) 1279 [(4, vi i), (0, .ref b), (1, .ref (adc 0)), (2, .ref (adm 0)), (3, .ref o)] [vi (kDP x z)]
  have hkr := kDP_rng  x z
  refine V.istore C (lc2 := [(5, vi (kDP x z)), (4, vi i), (0, .ref b), (1, .ref (adc 0)), (2, .ref (adm 0)), (3, .ref o)]) dL_law_1279 (by decide) rfl ?_
  refine V.aload_n C dL_law_1281 4 rfl ?_
  refine V.aload_n C dL_law_1282 2 rfl ?_
  refine V.iload C dL_law_1283 1 rfl ?_
  refine V.iconst C dL_law_1285 ?_
  refine V.iadd C dL_law_1286 ?_
  refine V.sldE C hX hbl hbA (by omega) (v := x) (by omega) (by omega) hx dL_law_1287 ?_
  refine V.aload_n C dL_law_1288 2 rfl ?_
  refine V.iload C dL_law_1289 1 rfl ?_
  refine V.iconst C dL_law_1291 ?_
  refine V.iadd C dL_law_1292 ?_
  refine V.sldE C hX hbl hbA (by omega) (v := z) (by omega) (by omega) hz dL_law_1293 ?_
  refine V.perm List.perm_append_comm ?_
  refine V.callVc C (wr := wx cy sa o f2 adc nr Mc2) (As := [vi x, vi z]) (st := []) (b := adm 0) kV_L_168 (c_m_order l D cy sa hfl adm Mm h td nr q rq hmi  x rx z rz) 0 rfl rfl rfl rfl (Nat.le_of_ble_eq_true rfl) ⟨by decide, by decide⟩ ⟨by omega, by omega⟩ dL_law_1294 (fun _ _ h => h.elim) (fun v2 w2 r2 => ?_)
  obtain ⟨y, rfl, hy, Mm2, hw2, ht, hm⟩ := r2
  rw [hw2]
  refine V.perm List.perm_append_comm ?_
  show V D 7 A p l e room_1 s m args below meth c Q (k + 6) (n + 36) (ml cy adm Mm2 ++ wx cy sa o f2 adc nr Mc2) 1297 [(5, vi (kDP x z)), (4, vi i), (0, .ref b), (1, .ref (adc 0)), (2, .ref (adm 0)), (3, .ref o)] [vi y]
  refine V.istore C (lc2 := [(6, vi y), (5, vi (kDP x z)), (4, vi i), (0, .ref b), (1, .ref (adc 0)), (2, .ref (adm 0)), (3, .ref o)]) dL_law_1297 (by decide) rfl ?_
  refine V.aload_n C dL_law_1299 5 rfl ?_
  refine V.perm List.perm_append_comm ?_
  refine V.callVc C (wr := wx cy sa o f2 adc nr Mc2) (As := []) (st := []) (b := adm 0) kV_L_103 (c_m_thrown l D cy sa hfl adm Mm2) 0 rfl rfl rfl rfl (Nat.le_of_ble_eq_true rfl) ⟨by decide, by decide⟩ ⟨by omega, by omega⟩ dL_law_1300 (fun _ _ h => h.elim) (fun v3 w3 r3 => ?_)
  obtain ⟨rfl, hw3⟩ := r3
  rw [hw3, ht]
  refine V.perm List.perm_append_comm ?_
  show V D 7 A p l e room_1 s m args below meth c Q (k + 6) (n + 36) (ml cy adm Mm2 ++ wx cy sa o f2 adc nr Mc2) 1303 [(6, vi y), (5, vi (kDP x z)), (4, vi i), (0, .ref b), (1, .ref (adc 0)), (2, .ref (adm 0)), (3, .ref o)] [vi (kDP x z)]
  refine V.iload C dL_law_1303 1 rfl ?_
  refine V.icmp_eq C 1310 dL_law_1305 (by decide) ⟨by omega, by omega⟩ ⟨by omega, by omega⟩ (fun h1305 => ?_) (fun h1305 => (by exact absurd rfl h1305))
  refine V.iload C dL_law_1310 1 rfl ?_
  refine V.if_ne C 1327 dL_law_1312 (by decide) ⟨by omega, by omega⟩ (fun h1312 => ?_) (fun h1312 => ?_)
  · skip
    refine V.goto C 1757 dL_law_1327 (by decide) ?_
    exact V.sub [2, 3, 4, 5, 6] rfl (kk _ _ (by omega) (by omega) f2 adc adm nr Mc2 Mm2 h td q rq nd rfl rfl (e1 h1312) hm hcl)
  · skip
    refine V.aload_n C dL_law_1315 6 rfl ?_
    refine V.iconst C dL_law_1316 ?_
    refine V.lald C (v := R64 (ordF h q nr rq x 5760 (fo h q) z)) 16 rfl (by decide) (by decide) (by decide) (e0 h1312).1 dL_law_1317 ?_
    show V D 7 A p l e room_1 s m args below meth c Q (k + 6) (n + 36) (ml cy adm Mm2 ++ wx cy sa o f2 adc nr Mc2) 1318 [(6, vi y), (5, vi (kDP x z)), (4, vi i), (0, .ref b), (1, .ref (adc 0)), (2, .ref (adm 0)), (3, .ref o)] [.long (R64 (ordF h q nr rq x 5760 (fo h q) z))]
    refine V.iload C dL_law_1318 0 rfl ?_
    refine V.i2l C dL_law_1320 ?_
    show V D 7 A p l e room_1 s m args below meth c Q (k + 6) (n + 36) (ml cy adm Mm2 ++ wx cy sa o f2 adc nr Mc2) 1321 [(6, vi y), (5, vi (kDP x z)), (4, vi i), (0, .ref b), (1, .ref (adc 0)), (2, .ref (adm 0)), (3, .ref o)] [.long (R64 y), .long (R64 (ordF h q nr rq x 5760 (fo h q) z))]
    refine V.lcmpE C dL_law_1321 (by rw [hy h1312]) ?_
    show V D 7 A p l e room_1 s m args below meth c Q (k + 6) (n + 36) (ml cy adm Mm2 ++ wx cy sa o f2 adc nr Mc2) 1322 [(6, vi y), (5, vi (kDP x z)), (4, vi i), (0, .ref b), (1, .ref (adc 0)), (2, .ref (adm 0)), (3, .ref o)] [vi 0]
    refine V.if_eq C 1327 dL_law_1322 (by decide) ⟨by decide, by decide⟩ (fun h1322 => ?_) (fun h1322 => (by exact absurd h1322 (by decide)))
    refine V.goto C 1757 dL_law_1327 (by decide) ?_
    exact V.sub [2, 3, 4, 5, 6] rfl (kk _ _ (by omega) (by omega) f2 adc adm nr Mc2 Mm2 h td q rq nd rfl rfl (e0 h1312).2 hm hcl)
set_option maxHeartbeats 4000000 in
set_option maxRecDepth 100000 in
theorem law_c20 {p : Program} {l : Launch} {e : Env} {s : State} {m : MethodId} {args : Array Value} {below : List Frame} {meth : Method} {c : Code} {D : va_G} {cy : Nat → ClassId} {sa : Nat → Addr} {A : Nat → Prop} {Q : State → Prop} (hfl : l.stackTraces = false) (C : Cx D cy sa RL cL_law 7 (some .boolean) A p l s m args meth c) {b L : Nat} {xs : Nat → Int32} (hX : va_X b L xs s s.heap) (hbl : b < s.heap.size) (hbA : ¬ A b) (hL : L ≤ 3584) {k n : Nat} (hk : k + 20 ≤ room_1.cells) (hn9 : n + 1000 ≤ room_1.slots) {o a1 a2 : Nat} {i : Int} (i0 : 0 ≤ i) (i1 : i + 7 ≤ (L : Int)) (kk : ∀ k2 n2 : Nat, k2 ≤ k + 20 → n2 ≤ n + 1000 → LV D cy sa A p l e s m args below meth c Q b o a1 a2 k2 n2 1757 [(4, vi i)] []) : LV D cy sa A p l e s m args below meth c Q b o a1 a2 k n 1330 [(4, vi i)] [] := by
  intro f adc adm nr Mc Mm h td q rq nd rfl rfl hci hmi hcl
  obtain ⟨x, hx⟩ : ∃ y, y = (xs (i + 1).toNat).toInt := ⟨_, rfl⟩
  have rx : inR x := by rw [hx]; exact zI_inR _
  obtain ⟨z, hz⟩ : ∃ y, y = (xs (i + 2).toNat).toInt := ⟨_, rfl⟩
  have rz : inR z := by rw [hz]; exact zI_inR _
  show V D 7 A p l e room_1 s m args below meth c Q k n (ml cy adm Mm ++ wx cy sa o f adc nr Mc) 1330 [(4, vi i), (0, .ref b), (1, .ref (adc 0)), (2, .ref (adm 0)), (3, .ref o)] []
  refine V.aload_n C dL_law_1330 2 rfl ?_
  refine V.aload_n C dL_law_1331 1 rfl ?_
  refine V.iload C dL_law_1332 0 rfl ?_
  refine V.iconst C dL_law_1334 ?_
  refine V.iadd C dL_law_1335 ?_
  refine V.sldE C hX hbl hbA (by omega) (v := x) (by omega) (by omega) hx dL_law_1336 ?_
  refine V.aload_n C dL_law_1337 1 rfl ?_
  refine V.iload C dL_law_1338 0 rfl ?_
  refine V.iconst C dL_law_1340 ?_
  refine V.iadd C dL_law_1341 ?_
  refine V.sldE C hX hbl hbA (by omega) (v := z) (by omega) (by omega) hz dL_law_1342 ?_
  refine V.aload_n C dL_law_1343 4 rfl ?_
  refine V.callSX C (As := [.ref (adc 0), vi x, vi z, .ref o]) (st := []) (wr := ml cy adm Mm) kX_L_169 (l_isCovered l D cy sa hfl o f adc nr Mc h td q rq nd hci x rx z rz) rfl rfl rfl (Nat.le_of_ble_eq_true rfl) ⟨by decide, by decide⟩ ⟨by omega, by omega⟩ dL_law_1344 (fun v1 w1 r1 => ?_)
  obtain ⟨rfl, f2, Mc2, hw1, e0, e1⟩ := r1
  rw [hw1]
  show V D 7 A p l e room_1 s m args below meth c Q (k + 6) (n + 36) (ml cy adm Mm ++ wx cy sa o f2 adc nr Mc2) 1347 [(4, vi i), (0, .ref b), (1, .ref (adc 0)), (2, .ref (adm 0)), (3, .ref o)] [vi (kRD nr x z)]
  have hkr := kRD_rng  nr x z
  refine V.istore C (lc2 := [(5, vi (kRD nr x z)), (4, vi i), (0, .ref b), (1, .ref (adc 0)), (2, .ref (adm 0)), (3, .ref o)]) dL_law_1347 (by decide) rfl ?_
  refine V.aload_n C dL_law_1349 4 rfl ?_
  refine V.aload_n C dL_law_1350 2 rfl ?_
  refine V.iload C dL_law_1351 1 rfl ?_
  refine V.iconst C dL_law_1353 ?_
  refine V.iadd C dL_law_1354 ?_
  refine V.sldE C hX hbl hbA (by omega) (v := x) (by omega) (by omega) hx dL_law_1355 ?_
  refine V.aload_n C dL_law_1356 2 rfl ?_
  refine V.iload C dL_law_1357 1 rfl ?_
  refine V.iconst C dL_law_1359 ?_
  refine V.iadd C dL_law_1360 ?_
  refine V.sldE C hX hbl hbA (by omega) (v := z) (by omega) (by omega) hz dL_law_1361 ?_
  refine V.perm List.perm_append_comm ?_
  refine V.callVc C (wr := wx cy sa o f2 adc nr Mc2) (As := [vi x, vi z]) (st := []) (b := adm 0) kV_L_171 (c_m_isCovered l D cy sa hfl adm Mm h td nr q rq hmi  x rx z rz) 0 rfl rfl rfl rfl (Nat.le_of_ble_eq_true rfl) ⟨by decide, by decide⟩ ⟨by omega, by omega⟩ dL_law_1362 (fun _ _ h => h.elim) (fun v2 w2 r2 => ?_)
  obtain ⟨y, rfl, hy, Mm2, hw2, ht, hm⟩ := r2
  rw [hw2]
  refine V.perm List.perm_append_comm ?_
  show V D 7 A p l e room_1 s m args below meth c Q (k + 6) (n + 36) (ml cy adm Mm2 ++ wx cy sa o f2 adc nr Mc2) 1365 [(5, vi (kRD nr x z)), (4, vi i), (0, .ref b), (1, .ref (adc 0)), (2, .ref (adm 0)), (3, .ref o)] [vi (bI y)]
  refine V.istore C (lc2 := [(6, vi (bI y)), (5, vi (kRD nr x z)), (4, vi i), (0, .ref b), (1, .ref (adc 0)), (2, .ref (adm 0)), (3, .ref o)]) dL_law_1365 (by decide) rfl ?_
  refine V.aload_n C dL_law_1367 5 rfl ?_
  refine V.perm List.perm_append_comm ?_
  refine V.callVc C (wr := wx cy sa o f2 adc nr Mc2) (As := []) (st := []) (b := adm 0) kV_L_103 (c_m_thrown l D cy sa hfl adm Mm2) 0 rfl rfl rfl rfl (Nat.le_of_ble_eq_true rfl) ⟨by decide, by decide⟩ ⟨by omega, by omega⟩ dL_law_1368 (fun _ _ h => h.elim) (fun v3 w3 r3 => ?_)
  obtain ⟨rfl, hw3⟩ := r3
  rw [hw3, ht]
  refine V.perm List.perm_append_comm ?_
  show V D 7 A p l e room_1 s m args below meth c Q (k + 6) (n + 36) (ml cy adm Mm2 ++ wx cy sa o f2 adc nr Mc2) 1371 [(6, vi (bI y)), (5, vi (kRD nr x z)), (4, vi i), (0, .ref b), (1, .ref (adc 0)), (2, .ref (adm 0)), (3, .ref o)] [vi (kRD nr x z)]
  refine V.iload C dL_law_1371 1 rfl ?_
  refine V.icmp_eq C 1378 dL_law_1373 (by decide) ⟨by omega, by omega⟩ ⟨by omega, by omega⟩ (fun h1373 => ?_) (fun h1373 => (by exact absurd rfl h1373))
  refine V.iload C dL_law_1378 1 rfl ?_
  refine V.if_ne C 1402 dL_law_1380 (by decide) ⟨by omega, by omega⟩ (fun h1380 => ?_) (fun h1380 => ?_)
  · skip
    refine V.goto C 1757 dL_law_1402 (by decide) ?_
    exact V.sub [2, 3, 4, 5, 6] rfl (kk _ _ (by omega) (by omega) f2 adc adm nr Mc2 Mm2 h td q rq nd rfl rfl (e1 h1380) hm hcl)
  · skip
    refine V.aload_n C dL_law_1383 6 rfl ?_
    refine V.iconst C dL_law_1384 ?_
    refine V.lald C (v := L64 (covd (q x.toNat) z)) 16 rfl (by decide) (by decide) (by decide) (e0 h1380).1 dL_law_1385 ?_
    show V D 7 A p l e room_1 s m args below meth c Q (k + 6) (n + 36) (ml cy adm Mm2 ++ wx cy sa o f2 adc nr Mc2) 1386 [(6, vi (bI y)), (5, vi (kRD nr x z)), (4, vi i), (0, .ref b), (1, .ref (adc 0)), (2, .ref (adm 0)), (3, .ref o)] [.long (L64 (covd (q x.toNat) z))]
    refine V.iload C dL_law_1386 0 rfl ?_
    refine V.if_eqB C 1395 dL_law_1388 (by decide) (fun h1388 => ?_) (fun h1388 => ?_)
    · skip
      refine V.lconst C (v := 0) dL_law_1395 rfl ?_
      show V D 7 A p l e room_1 s m args below meth c Q (k + 6) (n + 36) (ml cy adm Mm2 ++ wx cy sa o f2 adc nr Mc2) 1396 [(6, vi (bI y)), (5, vi (kRD nr x z)), (4, vi i), (0, .ref b), (1, .ref (adc 0)), (2, .ref (adm 0)), (3, .ref o)] [.long 0, .long (L64 (covd (q x.toNat) z))]
      refine V.lcmpE C dL_law_1396 (by rw [← hy h1380, h1388]; rfl) ?_
      show V D 7 A p l e room_1 s m args below meth c Q (k + 6) (n + 36) (ml cy adm Mm2 ++ wx cy sa o f2 adc nr Mc2) 1397 [(6, vi (bI y)), (5, vi (kRD nr x z)), (4, vi i), (0, .ref b), (1, .ref (adc 0)), (2, .ref (adm 0)), (3, .ref o)] [vi 0]
      refine V.if_eq C 1402 dL_law_1397 (by decide) ⟨by decide, by decide⟩ (fun h1397 => ?_) (fun h1397 => (by exact absurd h1397 (by decide)))
      refine V.goto C 1757 dL_law_1402 (by decide) ?_
      exact V.sub [2, 3, 4, 5, 6] rfl (kk _ _ (by omega) (by omega) f2 adc adm nr Mc2 Mm2 h td q rq nd rfl rfl (e0 h1380).2 hm hcl)
    · skip
      refine V.lconst C (v := 1) dL_law_1391 rfl ?_
      show V D 7 A p l e room_1 s m args below meth c Q (k + 6) (n + 36) (ml cy adm Mm2 ++ wx cy sa o f2 adc nr Mc2) 1392 [(6, vi (bI y)), (5, vi (kRD nr x z)), (4, vi i), (0, .ref b), (1, .ref (adc 0)), (2, .ref (adm 0)), (3, .ref o)] [.long 1, .long (L64 (covd (q x.toNat) z))]
      refine V.goto C 1396 dL_law_1392 (by decide) ?_
      refine V.lcmpE C dL_law_1396 (by rw [← hy h1380, h1388]; rfl) ?_
      show V D 7 A p l e room_1 s m args below meth c Q (k + 6) (n + 36) (ml cy adm Mm2 ++ wx cy sa o f2 adc nr Mc2) 1397 [(6, vi (bI y)), (5, vi (kRD nr x z)), (4, vi i), (0, .ref b), (1, .ref (adc 0)), (2, .ref (adm 0)), (3, .ref o)] [vi 0]
      refine V.if_eq C 1402 dL_law_1397 (by decide) ⟨by decide, by decide⟩ (fun h1397 => ?_) (fun h1397 => (by exact absurd h1397 (by decide)))
      refine V.goto C 1757 dL_law_1402 (by decide) ?_
      exact V.sub [2, 3, 4, 5, 6] rfl (kk _ _ (by omega) (by omega) f2 adc adm nr Mc2 Mm2 h td q rq nd rfl rfl (e0 h1380).2 hm hcl)
set_option maxHeartbeats 4000000 in
set_option maxRecDepth 100000 in
theorem law_c21 {p : Program} {l : Launch} {e : Env} {s : State} {m : MethodId} {args : Array Value} {below : List Frame} {meth : Method} {c : Code} {D : va_G} {cy : Nat → ClassId} {sa : Nat → Addr} {A : Nat → Prop} {Q : State → Prop} (hfl : l.stackTraces = false) (C : Cx D cy sa RL cL_law 7 (some .boolean) A p l s m args meth c) {b L : Nat} {xs : Nat → Int32} (hX : va_X b L xs s s.heap) (hbl : b < s.heap.size) (hbA : ¬ A b) (hL : L ≤ 3584) {k n : Nat} (hk : k + 20 ≤ room_1.cells) (hn9 : n + 1000 ≤ room_1.slots) {o a1 a2 : Nat} {i : Int} (i0 : 0 ≤ i) (i1 : i + 7 ≤ (L : Int)) (kk : ∀ k2 n2 : Nat, k2 ≤ k + 20 → n2 ≤ n + 1000 → LV D cy sa A p l e s m args below meth c Q b o a1 a2 k2 n2 1757 [(4, vi i)] []) : LV D cy sa A p l e s m args below meth c Q b o a1 a2 k n 1405 [(4, vi i)] [] := by
  intro f adc adm nr Mc Mm h td q rq nd rfl rfl hci hmi hcl
  obtain ⟨x, hx⟩ : ∃ y, y = (xs (i + 1).toNat).toInt := ⟨_, rfl⟩
  have rx : inR x := by rw [hx]; exact zI_inR _
  show V D 7 A p l e room_1 s m args below meth c Q k n (ml cy adm Mm ++ wx cy sa o f adc nr Mc) 1405 [(4, vi i), (0, .ref b), (1, .ref (adc 0)), (2, .ref (adm 0)), (3, .ref o)] []
  refine V.aload_n C dL_law_1405 2 rfl ?_
  refine V.aload_n C dL_law_1406 1 rfl ?_
  refine V.iload C dL_law_1407 0 rfl ?_
  refine V.iconst C dL_law_1409 ?_
  refine V.iadd C dL_law_1410 ?_
  refine V.sldE C hX hbl hbA (by omega) (v := x) (by omega) (by omega) hx dL_law_1411 ?_
  refine V.aload_n C dL_law_1412 4 rfl ?_
  refine V.callSX C (As := [.ref (adc 0), vi x, .ref o]) (st := []) (wr := ml cy adm Mm) kX_L_172 (l_lasts l D cy sa hfl o f adc nr Mc h td q rq nd hci x rx) rfl rfl rfl (Nat.le_of_ble_eq_true rfl) ⟨by decide, by decide⟩ ⟨by omega, by omega⟩ dL_law_1413 (fun v1 w1 r1 => ?_)
  obtain ⟨rfl, f2, Mc2, hw1, e0, e1⟩ := r1
  rw [hw1]
  show V D 7 A p l e room_1 s m args below meth c Q (k + 6) (n + 36) (ml cy adm Mm ++ wx cy sa o f2 adc nr Mc2) 1416 [(4, vi i), (0, .ref b), (1, .ref (adc 0)), (2, .ref (adm 0)), (3, .ref o)] [vi (kLasts nr q x)]
  have hkr := kLasts_rng  nr q x
  refine V.istore C (lc2 := [(5, vi (kLasts nr q x)), (4, vi i), (0, .ref b), (1, .ref (adc 0)), (2, .ref (adm 0)), (3, .ref o)]) dL_law_1416 (by decide) rfl ?_
  refine V.aload_n C dL_law_1418 4 rfl ?_
  refine V.aload_n C dL_law_1419 2 rfl ?_
  refine V.iload C dL_law_1420 1 rfl ?_
  refine V.iconst C dL_law_1422 ?_
  refine V.iadd C dL_law_1423 ?_
  refine V.sldE C hX hbl hbA (by omega) (v := x) (by omega) (by omega) hx dL_law_1424 ?_
  refine V.perm List.perm_append_comm ?_
  refine V.callVc C (wr := wx cy sa o f2 adc nr Mc2) (As := [vi x]) (st := []) (b := adm 0) kV_L_174 (c_m_lasts l D cy sa hfl adm Mm h td nr q rq hmi  x rx) 0 rfl rfl rfl rfl (Nat.le_of_ble_eq_true rfl) ⟨by decide, by decide⟩ ⟨by omega, by omega⟩ dL_law_1425 (fun _ _ h => h.elim) (fun v2 w2 r2 => ?_)
  obtain ⟨y, rfl, hy, Mm2, hw2, ht, hm⟩ := r2
  rw [hw2]
  refine V.perm List.perm_append_comm ?_
  show V D 7 A p l e room_1 s m args below meth c Q (k + 6) (n + 36) (ml cy adm Mm2 ++ wx cy sa o f2 adc nr Mc2) 1428 [(5, vi (kLasts nr q x)), (4, vi i), (0, .ref b), (1, .ref (adc 0)), (2, .ref (adm 0)), (3, .ref o)] [vi y]
  refine V.istore C (lc2 := [(6, vi y), (5, vi (kLasts nr q x)), (4, vi i), (0, .ref b), (1, .ref (adc 0)), (2, .ref (adm 0)), (3, .ref o)]) dL_law_1428 (by decide) rfl ?_
  refine V.aload_n C dL_law_1430 5 rfl ?_
  refine V.perm List.perm_append_comm ?_
  refine V.callVc C (wr := wx cy sa o f2 adc nr Mc2) (As := []) (st := []) (b := adm 0) kV_L_103 (c_m_thrown l D cy sa hfl adm Mm2) 0 rfl rfl rfl rfl (Nat.le_of_ble_eq_true rfl) ⟨by decide, by decide⟩ ⟨by omega, by omega⟩ dL_law_1431 (fun _ _ h => h.elim) (fun v3 w3 r3 => ?_)
  obtain ⟨rfl, hw3⟩ := r3
  rw [hw3, ht]
  refine V.perm List.perm_append_comm ?_
  show V D 7 A p l e room_1 s m args below meth c Q (k + 6) (n + 36) (ml cy adm Mm2 ++ wx cy sa o f2 adc nr Mc2) 1434 [(6, vi y), (5, vi (kLasts nr q x)), (4, vi i), (0, .ref b), (1, .ref (adc 0)), (2, .ref (adm 0)), (3, .ref o)] [vi (kLasts nr q x)]
  refine V.iload C dL_law_1434 1 rfl ?_
  refine V.icmp_eq C 1441 dL_law_1436 (by decide) ⟨by omega, by omega⟩ ⟨by omega, by omega⟩ (fun h1436 => ?_) (fun h1436 => (by exact absurd rfl h1436))
  refine V.iload C dL_law_1441 1 rfl ?_
  refine V.if_ne C 1458 dL_law_1443 (by decide) ⟨by omega, by omega⟩ (fun h1443 => ?_) (fun h1443 => ?_)
  · skip
    refine V.goto C 1757 dL_law_1458 (by decide) ?_
    exact V.sub [2, 3, 4, 5, 6] rfl (kk _ _ (by omega) (by omega) f2 adc adm nr Mc2 Mm2 h td q rq nd rfl rfl (e1 h1443) hm hcl)
  · skip
    refine V.aload_n C dL_law_1446 6 rfl ?_
    refine V.iconst C dL_law_1447 ?_
    refine V.lald C (v := R64 (q x.toNat 9 + q x.toNat 4 - td)) 16 rfl (by decide) (by decide) (by decide) (e0 h1443).1 dL_law_1448 ?_
    show V D 7 A p l e room_1 s m args below meth c Q (k + 6) (n + 36) (ml cy adm Mm2 ++ wx cy sa o f2 adc nr Mc2) 1449 [(6, vi y), (5, vi (kLasts nr q x)), (4, vi i), (0, .ref b), (1, .ref (adc 0)), (2, .ref (adm 0)), (3, .ref o)] [.long (R64 (q x.toNat 9 + q x.toNat 4 - td))]
    refine V.iload C dL_law_1449 0 rfl ?_
    refine V.i2l C dL_law_1451 ?_
    show V D 7 A p l e room_1 s m args below meth c Q (k + 6) (n + 36) (ml cy adm Mm2 ++ wx cy sa o f2 adc nr Mc2) 1452 [(6, vi y), (5, vi (kLasts nr q x)), (4, vi i), (0, .ref b), (1, .ref (adc 0)), (2, .ref (adm 0)), (3, .ref o)] [.long (R64 y), .long (R64 (q x.toNat 9 + q x.toNat 4 - td))]
    refine V.lcmpE C dL_law_1452 (by rw [hy h1443]) ?_
    show V D 7 A p l e room_1 s m args below meth c Q (k + 6) (n + 36) (ml cy adm Mm2 ++ wx cy sa o f2 adc nr Mc2) 1453 [(6, vi y), (5, vi (kLasts nr q x)), (4, vi i), (0, .ref b), (1, .ref (adc 0)), (2, .ref (adm 0)), (3, .ref o)] [vi 0]
    refine V.if_eq C 1458 dL_law_1453 (by decide) ⟨by decide, by decide⟩ (fun h1453 => ?_) (fun h1453 => (by exact absurd h1453 (by decide)))
    refine V.goto C 1757 dL_law_1458 (by decide) ?_
    exact V.sub [2, 3, 4, 5, 6] rfl (kk _ _ (by omega) (by omega) f2 adc adm nr Mc2 Mm2 h td q rq nd rfl rfl (e0 h1443).2 hm hcl)
set_option maxHeartbeats 4000000 in
set_option maxRecDepth 100000 in
theorem law_c22 {p : Program} {l : Launch} {e : Env} {s : State} {m : MethodId} {args : Array Value} {below : List Frame} {meth : Method} {c : Code} {D : va_G} {cy : Nat → ClassId} {sa : Nat → Addr} {A : Nat → Prop} {Q : State → Prop} (hfl : l.stackTraces = false) (C : Cx D cy sa RL cL_law 7 (some .boolean) A p l s m args meth c) {b L : Nat} {xs : Nat → Int32} (hX : va_X b L xs s s.heap) (hbl : b < s.heap.size) (hbA : ¬ A b) (hL : L ≤ 3584) {k n : Nat} (hk : k + 20 ≤ room_1.cells) (hn9 : n + 1000 ≤ room_1.slots) {o a1 a2 : Nat} {i : Int} (i0 : 0 ≤ i) (i1 : i + 7 ≤ (L : Int)) (kk : ∀ k2 n2 : Nat, k2 ≤ k + 20 → n2 ≤ n + 1000 → LV D cy sa A p l e s m args below meth c Q b o a1 a2 k2 n2 1757 [(4, vi i)] []) : LV D cy sa A p l e s m args below meth c Q b o a1 a2 k n 1461 [(4, vi i)] [] := by
  intro f adc adm nr Mc Mm h td q rq nd rfl rfl hci hmi hcl
  obtain ⟨x, hx⟩ : ∃ y, y = (xs (i + 1).toNat).toInt := ⟨_, rfl⟩
  have rx : inR x := by rw [hx]; exact zI_inR _
  show V D 7 A p l e room_1 s m args below meth c Q k n (ml cy adm Mm ++ wx cy sa o f adc nr Mc) 1461 [(4, vi i), (0, .ref b), (1, .ref (adc 0)), (2, .ref (adm 0)), (3, .ref o)] []
  refine V.aload_n C dL_law_1461 2 rfl ?_
  refine V.aload_n C dL_law_1462 1 rfl ?_
  refine V.iload C dL_law_1463 0 rfl ?_
  refine V.iconst C dL_law_1465 ?_
  refine V.iadd C dL_law_1466 ?_
  refine V.sldE C hX hbl hbA (by omega) (v := x) (by omega) (by omega) hx dL_law_1467 ?_
  refine V.aload_n C dL_law_1468 4 rfl ?_
  refine V.callSX C (As := [.ref (adc 0), vi x, .ref o]) (st := []) (wr := ml cy adm Mm) kX_L_175 (l_load l D cy sa hfl o f adc nr Mc h td q rq nd hci x rx) rfl rfl rfl (Nat.le_of_ble_eq_true rfl) ⟨by decide, by decide⟩ ⟨by omega, by omega⟩ dL_law_1469 (fun v1 w1 r1 => ?_)
  obtain ⟨rfl, f2, Mc2, hw1, e0, e1⟩ := r1
  rw [hw1]
  show V D 7 A p l e room_1 s m args below meth c Q (k + 6) (n + 36) (ml cy adm Mm ++ wx cy sa o f2 adc nr Mc2) 1472 [(4, vi i), (0, .ref b), (1, .ref (adc 0)), (2, .ref (adm 0)), (3, .ref o)] [vi (kDay x)]
  have hkr := kDay_rng  x
  refine V.istore C (lc2 := [(5, vi (kDay x)), (4, vi i), (0, .ref b), (1, .ref (adc 0)), (2, .ref (adm 0)), (3, .ref o)]) dL_law_1472 (by decide) rfl ?_
  refine V.aload_n C dL_law_1474 4 rfl ?_
  refine V.aload_n C dL_law_1475 2 rfl ?_
  refine V.iload C dL_law_1476 1 rfl ?_
  refine V.iconst C dL_law_1478 ?_
  refine V.iadd C dL_law_1479 ?_
  refine V.sldE C hX hbl hbA (by omega) (v := x) (by omega) (by omega) hx dL_law_1480 ?_
  refine V.perm List.perm_append_comm ?_
  refine V.callVc C (wr := wx cy sa o f2 adc nr Mc2) (As := [vi x]) (st := []) (b := adm 0) kV_L_177 (c_m_load l D cy sa hfl adm Mm h td nr q rq hmi  x rx) 0 rfl rfl rfl rfl (Nat.le_of_ble_eq_true rfl) ⟨by decide, by decide⟩ ⟨by omega, by omega⟩ dL_law_1481 (fun _ _ h => h.elim) (fun v2 w2 r2 => ?_)
  obtain ⟨y, rfl, hy, Mm2, hw2, ht, hm⟩ := r2
  rw [hw2]
  refine V.perm List.perm_append_comm ?_
  show V D 7 A p l e room_1 s m args below meth c Q (k + 6) (n + 36) (ml cy adm Mm2 ++ wx cy sa o f2 adc nr Mc2) 1484 [(5, vi (kDay x)), (4, vi i), (0, .ref b), (1, .ref (adc 0)), (2, .ref (adm 0)), (3, .ref o)] [vi y]
  refine V.istore C (lc2 := [(6, vi y), (5, vi (kDay x)), (4, vi i), (0, .ref b), (1, .ref (adc 0)), (2, .ref (adm 0)), (3, .ref o)]) dL_law_1484 (by decide) rfl ?_
  refine V.aload_n C dL_law_1486 5 rfl ?_
  refine V.perm List.perm_append_comm ?_
  refine V.callVc C (wr := wx cy sa o f2 adc nr Mc2) (As := []) (st := []) (b := adm 0) kV_L_103 (c_m_thrown l D cy sa hfl adm Mm2) 0 rfl rfl rfl rfl (Nat.le_of_ble_eq_true rfl) ⟨by decide, by decide⟩ ⟨by omega, by omega⟩ dL_law_1487 (fun _ _ h => h.elim) (fun v3 w3 r3 => ?_)
  obtain ⟨rfl, hw3⟩ := r3
  rw [hw3, ht]
  refine V.perm List.perm_append_comm ?_
  show V D 7 A p l e room_1 s m args below meth c Q (k + 6) (n + 36) (ml cy adm Mm2 ++ wx cy sa o f2 adc nr Mc2) 1490 [(6, vi y), (5, vi (kDay x)), (4, vi i), (0, .ref b), (1, .ref (adc 0)), (2, .ref (adm 0)), (3, .ref o)] [vi (kDay x)]
  refine V.iload C dL_law_1490 1 rfl ?_
  refine V.icmp_eq C 1497 dL_law_1492 (by decide) ⟨by omega, by omega⟩ ⟨by omega, by omega⟩ (fun h1492 => ?_) (fun h1492 => (by exact absurd rfl h1492))
  refine V.iload C dL_law_1497 1 rfl ?_
  refine V.if_ne C 1514 dL_law_1499 (by decide) ⟨by omega, by omega⟩ (fun h1499 => ?_) (fun h1499 => ?_)
  · skip
    refine V.goto C 1757 dL_law_1514 (by decide) ?_
    exact V.sub [2, 3, 4, 5, 6] rfl (kk _ _ (by omega) (by omega) f2 adc adm nr Mc2 Mm2 h td q rq nd rfl rfl (e1 h1499) hm hcl)
  · skip
    refine V.aload_n C dL_law_1502 6 rfl ?_
    refine V.iconst C dL_law_1503 ?_
    refine V.lald C (v := R64 (efs h q nr x)) 16 rfl (by decide) (by decide) (by decide) (e0 h1499).1 dL_law_1504 ?_
    show V D 7 A p l e room_1 s m args below meth c Q (k + 6) (n + 36) (ml cy adm Mm2 ++ wx cy sa o f2 adc nr Mc2) 1505 [(6, vi y), (5, vi (kDay x)), (4, vi i), (0, .ref b), (1, .ref (adc 0)), (2, .ref (adm 0)), (3, .ref o)] [.long (R64 (efs h q nr x))]
    refine V.iload C dL_law_1505 0 rfl ?_
    refine V.i2l C dL_law_1507 ?_
    show V D 7 A p l e room_1 s m args below meth c Q (k + 6) (n + 36) (ml cy adm Mm2 ++ wx cy sa o f2 adc nr Mc2) 1508 [(6, vi y), (5, vi (kDay x)), (4, vi i), (0, .ref b), (1, .ref (adc 0)), (2, .ref (adm 0)), (3, .ref o)] [.long (R64 y), .long (R64 (efs h q nr x))]
    refine V.lcmpE C dL_law_1508 (by rw [hy h1499]) ?_
    show V D 7 A p l e room_1 s m args below meth c Q (k + 6) (n + 36) (ml cy adm Mm2 ++ wx cy sa o f2 adc nr Mc2) 1509 [(6, vi y), (5, vi (kDay x)), (4, vi i), (0, .ref b), (1, .ref (adc 0)), (2, .ref (adm 0)), (3, .ref o)] [vi 0]
    refine V.if_eq C 1514 dL_law_1509 (by decide) ⟨by decide, by decide⟩ (fun h1509 => ?_) (fun h1509 => (by exact absurd h1509 (by decide)))
    refine V.goto C 1757 dL_law_1514 (by decide) ?_
    exact V.sub [2, 3, 4, 5, 6] rfl (kk _ _ (by omega) (by omega) f2 adc adm nr Mc2 Mm2 h td q rq nd rfl rfl (e0 h1499).2 hm hcl)
set_option maxHeartbeats 4000000 in
set_option maxRecDepth 100000 in
theorem law_c23 {p : Program} {l : Launch} {e : Env} {s : State} {m : MethodId} {args : Array Value} {below : List Frame} {meth : Method} {c : Code} {D : va_G} {cy : Nat → ClassId} {sa : Nat → Addr} {A : Nat → Prop} {Q : State → Prop} (hfl : l.stackTraces = false) (C : Cx D cy sa RL cL_law 7 (some .boolean) A p l s m args meth c) {b L : Nat} {xs : Nat → Int32} (hX : va_X b L xs s s.heap) (hbl : b < s.heap.size) (hbA : ¬ A b) (hL : L ≤ 3584) {k n : Nat} (hk : k + 20 ≤ room_1.cells) (hn9 : n + 1000 ≤ room_1.slots) {o a1 a2 : Nat} {i : Int} (i0 : 0 ≤ i) (i1 : i + 7 ≤ (L : Int)) (kk : ∀ k2 n2 : Nat, k2 ≤ k + 20 → n2 ≤ n + 1000 → LV D cy sa A p l e s m args below meth c Q b o a1 a2 k2 n2 1757 [(4, vi i)] []) : LV D cy sa A p l e s m args below meth c Q b o a1 a2 k n 1517 [(4, vi i)] [] := by
  intro f adc adm nr Mc Mm h td q rq nd rfl rfl hci hmi hcl
  obtain ⟨x, hx⟩ : ∃ y, y = (xs (i + 1).toNat).toInt := ⟨_, rfl⟩
  have rx : inR x := by rw [hx]; exact zI_inR _
  obtain ⟨z, hz⟩ : ∃ y, y = (xs (i + 2).toNat).toInt := ⟨_, rfl⟩
  have rz : inR z := by rw [hz]; exact zI_inR _
  show V D 7 A p l e room_1 s m args below meth c Q k n (ml cy adm Mm ++ wx cy sa o f adc nr Mc) 1517 [(4, vi i), (0, .ref b), (1, .ref (adc 0)), (2, .ref (adm 0)), (3, .ref o)] []
  refine V.aload_n C dL_law_1517 2 rfl ?_
  refine V.aload_n C dL_law_1518 1 rfl ?_
  refine V.iload C dL_law_1519 0 rfl ?_
  refine V.iconst C dL_law_1521 ?_
  refine V.iadd C dL_law_1522 ?_
  refine V.sldE C hX hbl hbA (by omega) (v := x) (by omega) (by omega) hx dL_law_1523 ?_
  refine V.aload_n C dL_law_1524 1 rfl ?_
  refine V.iload C dL_law_1525 0 rfl ?_
  refine V.iconst C dL_law_1527 ?_
  refine V.iadd C dL_law_1528 ?_
  refine V.sldE C hX hbl hbA (by omega) (v := z) (by omega) (by omega) hz dL_law_1529 ?_
  refine V.aload_n C dL_law_1530 4 rfl ?_
  refine V.callSX C (As := [.ref (adc 0), vi x, vi z, .ref o]) (st := []) (wr := ml cy adm Mm) kX_L_178 (l_heaviest l D cy sa hfl o f adc nr Mc h td q rq nd hci x rx z rz) rfl rfl rfl (Nat.le_of_ble_eq_true rfl) ⟨by decide, by decide⟩ ⟨by omega, by omega⟩ dL_law_1531 (fun v1 w1 r1 => ?_)
  obtain ⟨rfl, f2, Mc2, hw1, e0, e1⟩ := r1
  rw [hw1]
  show V D 7 A p l e room_1 s m args below meth c Q (k + 6) (n + 36) (ml cy adm Mm ++ wx cy sa o f2 adc nr Mc2) 1534 [(4, vi i), (0, .ref b), (1, .ref (adc 0)), (2, .ref (adm 0)), (3, .ref o)] [vi (kSpan x z)]
  have hkr := kSpan_rng3  x z
  refine V.istore C (lc2 := [(5, vi (kSpan x z)), (4, vi i), (0, .ref b), (1, .ref (adc 0)), (2, .ref (adm 0)), (3, .ref o)]) dL_law_1534 (by decide) rfl ?_
  refine V.aload_n C dL_law_1536 4 rfl ?_
  refine V.aload_n C dL_law_1537 2 rfl ?_
  refine V.iload C dL_law_1538 1 rfl ?_
  refine V.iconst C dL_law_1540 ?_
  refine V.iadd C dL_law_1541 ?_
  refine V.sldE C hX hbl hbA (by omega) (v := x) (by omega) (by omega) hx dL_law_1542 ?_
  refine V.aload_n C dL_law_1543 2 rfl ?_
  refine V.iload C dL_law_1544 1 rfl ?_
  refine V.iconst C dL_law_1546 ?_
  refine V.iadd C dL_law_1547 ?_
  refine V.sldE C hX hbl hbA (by omega) (v := z) (by omega) (by omega) hz dL_law_1548 ?_
  refine V.perm List.perm_append_comm ?_
  refine V.callVc C (wr := wx cy sa o f2 adc nr Mc2) (As := [vi x, vi z]) (st := []) (b := adm 0) kV_L_180 (c_m_heaviest l D cy sa hfl adm Mm h td nr q rq hmi  x rx z rz) 0 rfl rfl rfl rfl (Nat.le_of_ble_eq_true rfl) ⟨by decide, by decide⟩ ⟨by omega, by omega⟩ dL_law_1549 (fun _ _ h => h.elim) (fun v2 w2 r2 => ?_)
  obtain ⟨y, rfl, hy, Mm2, hw2, ht, hm⟩ := r2
  rw [hw2]
  refine V.perm List.perm_append_comm ?_
  show V D 7 A p l e room_1 s m args below meth c Q (k + 6) (n + 36) (ml cy adm Mm2 ++ wx cy sa o f2 adc nr Mc2) 1552 [(5, vi (kSpan x z)), (4, vi i), (0, .ref b), (1, .ref (adc 0)), (2, .ref (adm 0)), (3, .ref o)] [vi y]
  refine V.istore C (lc2 := [(6, vi y), (5, vi (kSpan x z)), (4, vi i), (0, .ref b), (1, .ref (adc 0)), (2, .ref (adm 0)), (3, .ref o)]) dL_law_1552 (by decide) rfl ?_
  refine V.aload_n C dL_law_1554 5 rfl ?_
  refine V.perm List.perm_append_comm ?_
  refine V.callVc C (wr := wx cy sa o f2 adc nr Mc2) (As := []) (st := []) (b := adm 0) kV_L_103 (c_m_thrown l D cy sa hfl adm Mm2) 0 rfl rfl rfl rfl (Nat.le_of_ble_eq_true rfl) ⟨by decide, by decide⟩ ⟨by omega, by omega⟩ dL_law_1555 (fun _ _ h => h.elim) (fun v3 w3 r3 => ?_)
  obtain ⟨rfl, hw3⟩ := r3
  rw [hw3, ht]
  refine V.perm List.perm_append_comm ?_
  show V D 7 A p l e room_1 s m args below meth c Q (k + 6) (n + 36) (ml cy adm Mm2 ++ wx cy sa o f2 adc nr Mc2) 1558 [(6, vi y), (5, vi (kSpan x z)), (4, vi i), (0, .ref b), (1, .ref (adc 0)), (2, .ref (adm 0)), (3, .ref o)] [vi (kSpan x z)]
  refine V.iload C dL_law_1558 1 rfl ?_
  refine V.icmp_eq C 1565 dL_law_1560 (by decide) ⟨by omega, by omega⟩ ⟨by omega, by omega⟩ (fun h1560 => ?_) (fun h1560 => (by exact absurd rfl h1560))
  refine V.iload C dL_law_1565 1 rfl ?_
  refine V.if_ne C 1582 dL_law_1567 (by decide) ⟨by omega, by omega⟩ (fun h1567 => ?_) (fun h1567 => ?_)
  · skip
    refine V.goto C 1757 dL_law_1582 (by decide) ?_
    exact V.sub [2, 3, 4, 5, 6] rfl (kk _ _ (by omega) (by omega) f2 adc adm nr Mc2 Mm2 h td q rq nd rfl rfl (e1 h1567) hm hcl)
  · skip
    refine V.aload_n C dL_law_1570 6 rfl ?_
    refine V.iconst C dL_law_1571 ?_
    refine V.lald C (v := R64 (hv (efs h q nr) x x z)) 16 rfl (by decide) (by decide) (by decide) (e0 h1567).1 dL_law_1572 ?_
    show V D 7 A p l e room_1 s m args below meth c Q (k + 6) (n + 36) (ml cy adm Mm2 ++ wx cy sa o f2 adc nr Mc2) 1573 [(6, vi y), (5, vi (kSpan x z)), (4, vi i), (0, .ref b), (1, .ref (adc 0)), (2, .ref (adm 0)), (3, .ref o)] [.long (R64 (hv (efs h q nr) x x z))]
    refine V.iload C dL_law_1573 0 rfl ?_
    refine V.i2l C dL_law_1575 ?_
    show V D 7 A p l e room_1 s m args below meth c Q (k + 6) (n + 36) (ml cy adm Mm2 ++ wx cy sa o f2 adc nr Mc2) 1576 [(6, vi y), (5, vi (kSpan x z)), (4, vi i), (0, .ref b), (1, .ref (adc 0)), (2, .ref (adm 0)), (3, .ref o)] [.long (R64 y), .long (R64 (hv (efs h q nr) x x z))]
    refine V.lcmpE C dL_law_1576 (by rw [hy h1567]) ?_
    show V D 7 A p l e room_1 s m args below meth c Q (k + 6) (n + 36) (ml cy adm Mm2 ++ wx cy sa o f2 adc nr Mc2) 1577 [(6, vi y), (5, vi (kSpan x z)), (4, vi i), (0, .ref b), (1, .ref (adc 0)), (2, .ref (adm 0)), (3, .ref o)] [vi 0]
    refine V.if_eq C 1582 dL_law_1577 (by decide) ⟨by decide, by decide⟩ (fun h1577 => ?_) (fun h1577 => (by exact absurd h1577 (by decide)))
    refine V.goto C 1757 dL_law_1582 (by decide) ?_
    exact V.sub [2, 3, 4, 5, 6] rfl (kk _ _ (by omega) (by omega) f2 adc adm nr Mc2 Mm2 h td q rq nd rfl rfl (e0 h1567).2 hm hcl)
set_option maxHeartbeats 4000000 in
set_option maxRecDepth 100000 in
theorem law_c24 {p : Program} {l : Launch} {e : Env} {s : State} {m : MethodId} {args : Array Value} {below : List Frame} {meth : Method} {c : Code} {D : va_G} {cy : Nat → ClassId} {sa : Nat → Addr} {A : Nat → Prop} {Q : State → Prop} (hfl : l.stackTraces = false) (C : Cx D cy sa RL cL_law 7 (some .boolean) A p l s m args meth c) {b L : Nat} {xs : Nat → Int32} (hX : va_X b L xs s s.heap) (hbl : b < s.heap.size) (hbA : ¬ A b) (hL : L ≤ 3584) {k n : Nat} (hk : k + 20 ≤ room_1.cells) (hn9 : n + 1000 ≤ room_1.slots) {o a1 a2 : Nat} {i : Int} (i0 : 0 ≤ i) (i1 : i + 7 ≤ (L : Int)) (kk : ∀ k2 n2 : Nat, k2 ≤ k + 20 → n2 ≤ n + 1000 → LV D cy sa A p l e s m args below meth c Q b o a1 a2 k2 n2 1757 [(4, vi i)] []) : LV D cy sa A p l e s m args below meth c Q b o a1 a2 k n 1585 [(4, vi i)] [] := by
  intro f adc adm nr Mc Mm h td q rq nd rfl rfl hci hmi hcl
  obtain ⟨x, hx⟩ : ∃ y, y = (xs (i + 1).toNat).toInt := ⟨_, rfl⟩
  have rx : inR x := by rw [hx]; exact zI_inR _
  obtain ⟨z, hz⟩ : ∃ y, y = (xs (i + 2).toNat).toInt := ⟨_, rfl⟩
  have rz : inR z := by rw [hz]; exact zI_inR _
  obtain ⟨cap, hcap⟩ : ∃ y, y = (xs (i + 3).toNat).toInt := ⟨_, rfl⟩
  have rcap : inR cap := by rw [hcap]; exact zI_inR _
  show V D 7 A p l e room_1 s m args below meth c Q k n (ml cy adm Mm ++ wx cy sa o f adc nr Mc) 1585 [(4, vi i), (0, .ref b), (1, .ref (adc 0)), (2, .ref (adm 0)), (3, .ref o)] []
  refine V.aload_n C dL_law_1585 2 rfl ?_
  refine V.aload_n C dL_law_1586 1 rfl ?_
  refine V.iload C dL_law_1587 0 rfl ?_
  refine V.iconst C dL_law_1589 ?_
  refine V.iadd C dL_law_1590 ?_
  refine V.sldE C hX hbl hbA (by omega) (v := x) (by omega) (by omega) hx dL_law_1591 ?_
  refine V.aload_n C dL_law_1592 1 rfl ?_
  refine V.iload C dL_law_1593 0 rfl ?_
  refine V.iconst C dL_law_1595 ?_
  refine V.iadd C dL_law_1596 ?_
  refine V.sldE C hX hbl hbA (by omega) (v := z) (by omega) (by omega) hz dL_law_1597 ?_
  refine V.aload_n C dL_law_1598 1 rfl ?_
  refine V.iload C dL_law_1599 0 rfl ?_
  refine V.iconst C dL_law_1601 ?_
  refine V.iadd C dL_law_1602 ?_
  refine V.sldE C hX hbl hbA (by omega) (v := cap) (by omega) (by omega) hcap dL_law_1603 ?_
  refine V.aload_n C dL_law_1604 4 rfl ?_
  refine V.callSX C (As := [.ref (adc 0), vi x, vi z, vi cap, .ref o]) (st := []) (wr := ml cy adm Mm) kX_L_181 (l_level l D cy sa hfl o f adc nr Mc h td q rq nd hci x rx z rz cap rcap) rfl rfl rfl (Nat.le_of_ble_eq_true rfl) ⟨by decide, by decide⟩ ⟨by omega, by omega⟩ dL_law_1605 (fun v1 w1 r1 => ?_)
  obtain ⟨rfl, f2, Mc2, hw1, e0, e1⟩ := r1
  rw [hw1]
  show V D 7 A p l e room_1 s m args below meth c Q (k + 6) (n + 36) (ml cy adm Mm ++ wx cy sa o f2 adc nr Mc2) 1608 [(4, vi i), (0, .ref b), (1, .ref (adc 0)), (2, .ref (adm 0)), (3, .ref o)] [vi (kLevel x z cap)]
  have hkr := kLevel_rng3  x z cap
  refine V.istore C (lc2 := [(5, vi (kLevel x z cap)), (4, vi i), (0, .ref b), (1, .ref (adc 0)), (2, .ref (adm 0)), (3, .ref o)]) dL_law_1608 (by decide) rfl ?_
  refine V.aload_n C dL_law_1610 4 rfl ?_
  refine V.aload_n C dL_law_1611 2 rfl ?_
  refine V.iload C dL_law_1612 1 rfl ?_
  refine V.iconst C dL_law_1614 ?_
  refine V.iadd C dL_law_1615 ?_
  refine V.sldE C hX hbl hbA (by omega) (v := x) (by omega) (by omega) hx dL_law_1616 ?_
  refine V.aload_n C dL_law_1617 2 rfl ?_
  refine V.iload C dL_law_1618 1 rfl ?_
  refine V.iconst C dL_law_1620 ?_
  refine V.iadd C dL_law_1621 ?_
  refine V.sldE C hX hbl hbA (by omega) (v := z) (by omega) (by omega) hz dL_law_1622 ?_
  refine V.aload_n C dL_law_1623 2 rfl ?_
  refine V.iload C dL_law_1624 1 rfl ?_
  refine V.iconst C dL_law_1626 ?_
  refine V.iadd C dL_law_1627 ?_
  refine V.sldE C hX hbl hbA (by omega) (v := cap) (by omega) (by omega) hcap dL_law_1628 ?_
  refine V.perm List.perm_append_comm ?_
  refine V.callVc C (wr := wx cy sa o f2 adc nr Mc2) (As := [vi x, vi z, vi cap]) (st := []) (b := adm 0) kV_L_184 (c_m_level l D cy sa hfl adm Mm h td nr q rq hmi  x rx z rz cap rcap) 0 rfl rfl rfl rfl (Nat.le_of_ble_eq_true rfl) ⟨by decide, by decide⟩ ⟨by omega, by omega⟩ dL_law_1629 (fun _ _ h => h.elim) (fun v2 w2 r2 => ?_)
  obtain ⟨y, rfl, hy, Mm2, hw2, ht, hm⟩ := r2
  rw [hw2]
  refine V.perm List.perm_append_comm ?_
  show V D 7 A p l e room_1 s m args below meth c Q (k + 6) (n + 36) (ml cy adm Mm2 ++ wx cy sa o f2 adc nr Mc2) 1632 [(5, vi (kLevel x z cap)), (4, vi i), (0, .ref b), (1, .ref (adc 0)), (2, .ref (adm 0)), (3, .ref o)] [vi y]
  refine V.istore C (lc2 := [(6, vi y), (5, vi (kLevel x z cap)), (4, vi i), (0, .ref b), (1, .ref (adc 0)), (2, .ref (adm 0)), (3, .ref o)]) dL_law_1632 (by decide) rfl ?_
  refine V.aload_n C dL_law_1634 5 rfl ?_
  refine V.perm List.perm_append_comm ?_
  refine V.callVc C (wr := wx cy sa o f2 adc nr Mc2) (As := []) (st := []) (b := adm 0) kV_L_103 (c_m_thrown l D cy sa hfl adm Mm2) 0 rfl rfl rfl rfl (Nat.le_of_ble_eq_true rfl) ⟨by decide, by decide⟩ ⟨by omega, by omega⟩ dL_law_1635 (fun _ _ h => h.elim) (fun v3 w3 r3 => ?_)
  obtain ⟨rfl, hw3⟩ := r3
  rw [hw3, ht]
  refine V.perm List.perm_append_comm ?_
  show V D 7 A p l e room_1 s m args below meth c Q (k + 6) (n + 36) (ml cy adm Mm2 ++ wx cy sa o f2 adc nr Mc2) 1638 [(6, vi y), (5, vi (kLevel x z cap)), (4, vi i), (0, .ref b), (1, .ref (adc 0)), (2, .ref (adm 0)), (3, .ref o)] [vi (kLevel x z cap)]
  refine V.iload C dL_law_1638 1 rfl ?_
  refine V.icmp_eq C 1645 dL_law_1640 (by decide) ⟨by omega, by omega⟩ ⟨by omega, by omega⟩ (fun h1640 => ?_) (fun h1640 => (by exact absurd rfl h1640))
  refine V.iload C dL_law_1645 1 rfl ?_
  refine V.if_ne C 1662 dL_law_1647 (by decide) ⟨by omega, by omega⟩ (fun h1647 => ?_) (fun h1647 => ?_)
  · skip
    refine V.goto C 1757 dL_law_1662 (by decide) ?_
    exact V.sub [2, 3, 4, 5, 6] rfl (kk _ _ (by omega) (by omega) f2 adc adm nr Mc2 Mm2 h td q rq nd rfl rfl (e1 h1647) hm hcl)
  · skip
    refine V.aload_n C dL_law_1650 6 rfl ?_
    refine V.iconst C dL_law_1651 ?_
    refine V.lald C (v := R64 ((lvl h q nr cap x z).2)) 16 rfl (by decide) (by decide) (by decide) (e0 h1647).1 dL_law_1652 ?_
    show V D 7 A p l e room_1 s m args below meth c Q (k + 6) (n + 36) (ml cy adm Mm2 ++ wx cy sa o f2 adc nr Mc2) 1653 [(6, vi y), (5, vi (kLevel x z cap)), (4, vi i), (0, .ref b), (1, .ref (adc 0)), (2, .ref (adm 0)), (3, .ref o)] [.long (R64 ((lvl h q nr cap x z).2))]
    refine V.iload C dL_law_1653 0 rfl ?_
    refine V.i2l C dL_law_1655 ?_
    show V D 7 A p l e room_1 s m args below meth c Q (k + 6) (n + 36) (ml cy adm Mm2 ++ wx cy sa o f2 adc nr Mc2) 1656 [(6, vi y), (5, vi (kLevel x z cap)), (4, vi i), (0, .ref b), (1, .ref (adc 0)), (2, .ref (adm 0)), (3, .ref o)] [.long (R64 y), .long (R64 ((lvl h q nr cap x z).2))]
    refine V.lcmpE C dL_law_1656 (by rw [hy h1647]) ?_
    show V D 7 A p l e room_1 s m args below meth c Q (k + 6) (n + 36) (ml cy adm Mm2 ++ wx cy sa o f2 adc nr Mc2) 1657 [(6, vi y), (5, vi (kLevel x z cap)), (4, vi i), (0, .ref b), (1, .ref (adc 0)), (2, .ref (adm 0)), (3, .ref o)] [vi 0]
    refine V.if_eq C 1662 dL_law_1657 (by decide) ⟨by decide, by decide⟩ (fun h1657 => ?_) (fun h1657 => (by exact absurd h1657 (by decide)))
    refine V.goto C 1757 dL_law_1662 (by decide) ?_
    exact V.sub [2, 3, 4, 5, 6] rfl (kk _ _ (by omega) (by omega) f2 adc adm nr Mc2 Mm2 h td q rq nd rfl rfl (e0 h1647).2 hm hcl)
set_option maxHeartbeats 4000000 in
set_option maxRecDepth 100000 in
theorem law_c25 {p : Program} {l : Launch} {e : Env} {s : State} {m : MethodId} {args : Array Value} {below : List Frame} {meth : Method} {c : Code} {D : va_G} {cy : Nat → ClassId} {sa : Nat → Addr} {A : Nat → Prop} {Q : State → Prop} (hfl : l.stackTraces = false) (C : Cx D cy sa RL cL_law 7 (some .boolean) A p l s m args meth c) {b L : Nat} {xs : Nat → Int32} (hX : va_X b L xs s s.heap) (hbl : b < s.heap.size) (hbA : ¬ A b) (hL : L ≤ 3584) {k n : Nat} (hk : k + 20 ≤ room_1.cells) (hn9 : n + 1000 ≤ room_1.slots) {o a1 a2 : Nat} {i : Int} (i0 : 0 ≤ i) (i1 : i + 7 ≤ (L : Int)) (kk : ∀ k2 n2 : Nat, k2 ≤ k + 20 → n2 ≤ n + 1000 → LV D cy sa A p l e s m args below meth c Q b o a1 a2 k2 n2 1757 [(4, vi i)] []) : LV D cy sa A p l e s m args below meth c Q b o a1 a2 k n 1665 [(4, vi i)] [] := by
  intro f adc adm nr Mc Mm h td q rq nd rfl rfl hci hmi hcl
  obtain ⟨x, hx⟩ : ∃ y, y = (xs (i + 1).toNat).toInt := ⟨_, rfl⟩
  have rx : inR x := by rw [hx]; exact zI_inR _
  obtain ⟨z, hz⟩ : ∃ y, y = (xs (i + 2).toNat).toInt := ⟨_, rfl⟩
  have rz : inR z := by rw [hz]; exact zI_inR _
  obtain ⟨cap, hcap⟩ : ∃ y, y = (xs (i + 3).toNat).toInt := ⟨_, rfl⟩
  have rcap : inR cap := by rw [hcap]; exact zI_inR _
  obtain ⟨d, hd⟩ : ∃ y, y = (xs (i + 4).toNat).toInt := ⟨_, rfl⟩
  have rd : inR d := by rw [hd]; exact zI_inR _
  show V D 7 A p l e room_1 s m args below meth c Q k n (ml cy adm Mm ++ wx cy sa o f adc nr Mc) 1665 [(4, vi i), (0, .ref b), (1, .ref (adc 0)), (2, .ref (adm 0)), (3, .ref o)] []
  refine V.aload_n C dL_law_1665 2 rfl ?_
  refine V.aload_n C dL_law_1666 1 rfl ?_
  refine V.iload C dL_law_1667 0 rfl ?_
  refine V.iconst C dL_law_1669 ?_
  refine V.iadd C dL_law_1670 ?_
  refine V.sldE C hX hbl hbA (by omega) (v := x) (by omega) (by omega) hx dL_law_1671 ?_
  refine V.aload_n C dL_law_1672 1 rfl ?_
  refine V.iload C dL_law_1673 0 rfl ?_
  refine V.iconst C dL_law_1675 ?_
  refine V.iadd C dL_law_1676 ?_
  refine V.sldE C hX hbl hbA (by omega) (v := z) (by omega) (by omega) hz dL_law_1677 ?_
  refine V.aload_n C dL_law_1678 1 rfl ?_
  refine V.iload C dL_law_1679 0 rfl ?_
  refine V.iconst C dL_law_1681 ?_
  refine V.iadd C dL_law_1682 ?_
  refine V.sldE C hX hbl hbA (by omega) (v := cap) (by omega) (by omega) hcap dL_law_1683 ?_
  refine V.aload_n C dL_law_1684 1 rfl ?_
  refine V.iload C dL_law_1685 0 rfl ?_
  refine V.iconst C dL_law_1687 ?_
  refine V.iadd C dL_law_1688 ?_
  refine V.sldE C hX hbl hbA (by omega) (v := d) (by omega) (by omega) hd dL_law_1689 ?_
  refine V.aload_n C dL_law_1690 4 rfl ?_
  refine V.callSX C (As := [.ref (adc 0), vi x, vi z, vi cap, vi d, .ref o]) (st := []) (wr := ml cy adm Mm) kX_L_185 (l_levelled l D cy sa hfl o f adc nr Mc h td q rq nd hci x rx z rz cap rcap d rd) rfl rfl rfl (Nat.le_of_ble_eq_true rfl) ⟨by decide, by decide⟩ ⟨by omega, by omega⟩ dL_law_1691 (fun v1 w1 r1 => ?_)
  obtain ⟨rfl, f2, Mc2, hw1, e0, e1⟩ := r1
  rw [hw1]
  show V D 7 A p l e room_1 s m args below meth c Q (k + 6) (n + 36) (ml cy adm Mm ++ wx cy sa o f2 adc nr Mc2) 1694 [(4, vi i), (0, .ref b), (1, .ref (adc 0)), (2, .ref (adm 0)), (3, .ref o)] [vi (kLevelled x z cap d)]
  have hkr := kLevelled_rng3  x z cap d
  refine V.istore C (lc2 := [(5, vi (kLevelled x z cap d)), (4, vi i), (0, .ref b), (1, .ref (adc 0)), (2, .ref (adm 0)), (3, .ref o)]) dL_law_1694 (by decide) rfl ?_
  refine V.aload_n C dL_law_1696 4 rfl ?_
  refine V.aload_n C dL_law_1697 2 rfl ?_
  refine V.iload C dL_law_1698 1 rfl ?_
  refine V.iconst C dL_law_1700 ?_
  refine V.iadd C dL_law_1701 ?_
  refine V.sldE C hX hbl hbA (by omega) (v := x) (by omega) (by omega) hx dL_law_1702 ?_
  refine V.aload_n C dL_law_1703 2 rfl ?_
  refine V.iload C dL_law_1704 1 rfl ?_
  refine V.iconst C dL_law_1706 ?_
  refine V.iadd C dL_law_1707 ?_
  refine V.sldE C hX hbl hbA (by omega) (v := z) (by omega) (by omega) hz dL_law_1708 ?_
  refine V.aload_n C dL_law_1709 2 rfl ?_
  refine V.iload C dL_law_1710 1 rfl ?_
  refine V.iconst C dL_law_1712 ?_
  refine V.iadd C dL_law_1713 ?_
  refine V.sldE C hX hbl hbA (by omega) (v := cap) (by omega) (by omega) hcap dL_law_1714 ?_
  refine V.aload_n C dL_law_1715 2 rfl ?_
  refine V.iload C dL_law_1716 1 rfl ?_
  refine V.iconst C dL_law_1718 ?_
  refine V.iadd C dL_law_1719 ?_
  refine V.sldE C hX hbl hbA (by omega) (v := d) (by omega) (by omega) hd dL_law_1720 ?_
  refine V.perm List.perm_append_comm ?_
  refine V.callVc C (wr := wx cy sa o f2 adc nr Mc2) (As := [vi x, vi z, vi cap, vi d]) (st := []) (b := adm 0) kV_L_188 (c_m_levelled l D cy sa hfl adm Mm h td nr q rq hmi  x rx z rz cap rcap d rd) 0 rfl rfl rfl rfl (Nat.le_of_ble_eq_true rfl) ⟨by decide, by decide⟩ ⟨by omega, by omega⟩ dL_law_1721 (fun _ _ h => h.elim) (fun v2 w2 r2 => ?_)
  obtain ⟨y, rfl, hy, Mm2, hw2, ht, hm⟩ := r2
  rw [hw2]
  refine V.perm List.perm_append_comm ?_
  show V D 7 A p l e room_1 s m args below meth c Q (k + 6) (n + 36) (ml cy adm Mm2 ++ wx cy sa o f2 adc nr Mc2) 1724 [(5, vi (kLevelled x z cap d)), (4, vi i), (0, .ref b), (1, .ref (adc 0)), (2, .ref (adm 0)), (3, .ref o)] [vi y]
  refine V.istore C (lc2 := [(6, vi y), (5, vi (kLevelled x z cap d)), (4, vi i), (0, .ref b), (1, .ref (adc 0)), (2, .ref (adm 0)), (3, .ref o)]) dL_law_1724 (by decide) rfl ?_
  refine V.aload_n C dL_law_1726 5 rfl ?_
  refine V.perm List.perm_append_comm ?_
  refine V.callVc C (wr := wx cy sa o f2 adc nr Mc2) (As := []) (st := []) (b := adm 0) kV_L_103 (c_m_thrown l D cy sa hfl adm Mm2) 0 rfl rfl rfl rfl (Nat.le_of_ble_eq_true rfl) ⟨by decide, by decide⟩ ⟨by omega, by omega⟩ dL_law_1727 (fun _ _ h => h.elim) (fun v3 w3 r3 => ?_)
  obtain ⟨rfl, hw3⟩ := r3
  rw [hw3, ht]
  refine V.perm List.perm_append_comm ?_
  show V D 7 A p l e room_1 s m args below meth c Q (k + 6) (n + 36) (ml cy adm Mm2 ++ wx cy sa o f2 adc nr Mc2) 1730 [(6, vi y), (5, vi (kLevelled x z cap d)), (4, vi i), (0, .ref b), (1, .ref (adc 0)), (2, .ref (adm 0)), (3, .ref o)] [vi (kLevelled x z cap d)]
  refine V.iload C dL_law_1730 1 rfl ?_
  refine V.icmp_eq C 1737 dL_law_1732 (by decide) ⟨by omega, by omega⟩ ⟨by omega, by omega⟩ (fun h1732 => ?_) (fun h1732 => (by exact absurd rfl h1732))
  refine V.iload C dL_law_1737 1 rfl ?_
  refine V.if_ne C 1754 dL_law_1739 (by decide) ⟨by omega, by omega⟩ (fun h1739 => ?_) (fun h1739 => ?_)
  · skip
    refine V.goto C 1757 dL_law_1754 (by decide) ?_
    exact V.sub [2, 3, 4, 5, 6] rfl (kk _ _ (by omega) (by omega) f2 adc adm nr Mc2 Mm2 h td q rq nd rfl rfl (e1 h1739) hm hcl)
  · skip
    refine V.aload_n C dL_law_1742 6 rfl ?_
    refine V.iconst C dL_law_1743 ?_
    refine V.lald C (v := R64 ((lvl h q nr cap x z).1 d)) 16 rfl (by decide) (by decide) (by decide) (e0 h1739).1 dL_law_1744 ?_
    show V D 7 A p l e room_1 s m args below meth c Q (k + 6) (n + 36) (ml cy adm Mm2 ++ wx cy sa o f2 adc nr Mc2) 1745 [(6, vi y), (5, vi (kLevelled x z cap d)), (4, vi i), (0, .ref b), (1, .ref (adc 0)), (2, .ref (adm 0)), (3, .ref o)] [.long (R64 ((lvl h q nr cap x z).1 d))]
    refine V.iload C dL_law_1745 0 rfl ?_
    refine V.i2l C dL_law_1747 ?_
    show V D 7 A p l e room_1 s m args below meth c Q (k + 6) (n + 36) (ml cy adm Mm2 ++ wx cy sa o f2 adc nr Mc2) 1748 [(6, vi y), (5, vi (kLevelled x z cap d)), (4, vi i), (0, .ref b), (1, .ref (adc 0)), (2, .ref (adm 0)), (3, .ref o)] [.long (R64 y), .long (R64 ((lvl h q nr cap x z).1 d))]
    refine V.lcmpE C dL_law_1748 (by rw [hy h1739]) ?_
    show V D 7 A p l e room_1 s m args below meth c Q (k + 6) (n + 36) (ml cy adm Mm2 ++ wx cy sa o f2 adc nr Mc2) 1749 [(6, vi y), (5, vi (kLevelled x z cap d)), (4, vi i), (0, .ref b), (1, .ref (adc 0)), (2, .ref (adm 0)), (3, .ref o)] [vi 0]
    refine V.if_eq C 1754 dL_law_1749 (by decide) ⟨by decide, by decide⟩ (fun h1749 => ?_) (fun h1749 => (by exact absurd h1749 (by decide)))
    refine V.goto C 1757 dL_law_1754 (by decide) ?_
    exact V.sub [2, 3, 4, 5, 6] rfl (kk _ _ (by omega) (by omega) f2 adc adm nr Mc2 Mm2 h td q rq nd rfl rfl (e0 h1739).2 hm hcl)
