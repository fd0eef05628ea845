/-! CONTRACTS over worlds: what a method answers and leaves (Po), what it throws and leaves (Px); any caller -/
def Qo (D : va_G) (Po : Option Value → va_W → Prop) (A : Nat → Prop) : Array Value → State → Outcome → State → Prop := fun _ st o t => (∃ (v : Option Value) (ws2 : va_W), o = .returned v ∧ Po v ws2 ∧ va_P D vwCl ws2 t.heap ∧ va_D A ws2) ∧ va_F A st t
def Xo (D : va_G) (Px : String → va_W → Prop) (A : Nat → Prop) : String → State → State → Prop := fun E st t => ∃ ws2 : va_W, Px E ws2 ∧ va_P D vwCl ws2 t.heap ∧ va_D A ws2 ∧ va_F A st t
def rmL (lev mc ms : Nat) : Room := { frames := lev, cells := mc, slots := ms, locals := 37 * lev }
def preC (D : va_G) (cy : Nat → ClassId) (sa : Nat → Addr) (ws : va_W) (sz : Nat) : State → Prop := fun U => U.heap.size = sz ∧ va_P D vwCl ws U.heap ∧ va_D (fun _ => True) ws ∧ Ev D cy sa (va_A ws sz) U U.heap
def Ct (l : Launch) (D : va_G) (cy : Nat → ClassId) (sa : Nat → Addr) (y : MethodName) (cc : ByteArray) (maxL : Nat) (ret : Option FieldType) (lev mc ms : Nat) (ws : va_W) (av : List Value) (Po : Option Value → va_W → Prop) (Px : String → va_W → Prop) : Prop :=
  ∀ sz : Nat, vx_Met l y (.code y cc maxL ret :: GW) (rmL lev mc ms) (va_Pc av (preC D cy sa ws sz)) (Qo D Po (va_A ws sz)) (Xo D Px (va_A ws sz)) mc ms (va_A ws sz)
def no_x : String → va_W → Prop := fun _ _ => False
theorem preC.blind {D : va_G} {cy : Nat → ClassId} {sa : Nat → Addr} {ws : va_W} {sz : Nat} {av : List Value} : FrameBlind (va_Pc av (preC D cy sa ws sz)) := fun a U g mk h => ⟨h.1, h.2.1, h.2.2.1, h.2.2.2.1, Ev.same (s := U) (U := U.calling g mk a) rfl h.2.2.2.2⟩
theorem gw_in {ws : List Cond} (h : ∀ w ∈ ws, w ∈ GW) : GoodIn GW ws := fun w hw => ⟨h w hw, good_of_word (gw_good (h w hw))⟩
theorem gw_ct {w : Cond} (h : w ∈ GW) : GoodIn GW (w :: GW) := gw_in fun _ hx => (List.mem_cons.mp hx).elim (fun e => e ▸ h) id
/-- the caller's other cells, and the callee's world, behind a call -/
theorem join2 {A : Nat → Prop} {D : va_G} {cl : List vw_C} {wr wc w1 : va_W} {H H1 : Heap} (hP : va_P D cl (wr ++ wc) H) (hD : va_D A (wr ++ wc)) (hA : ∀ q : Nat, H.size ≤ q → A q)
    (hk : ∀ q : Nat, q < H.size → ¬ va_A wc H.size q → H1[q]? = H[q]?) (hP1 : va_P D cl w1 H1) (hD1 : va_D (va_A wc H.size) w1) : va_P D cl (wr ++ w1) H1 ∧ va_D A (wr ++ w1) := by
  have hR : ∀ (i : Nat) (x : Nat × va_E), wr[i]? = some x → (wr ++ wc)[i]? = some x := fun i x h => by
    rw [List.getElem?_append_left (List.getElem?_eq_some_iff.mp h).1]; exact h
  have hC : ∀ (i : Nat) (x : Nat × va_E), wc[i]? = some x → (wr ++ wc)[wr.length + i]? = some x := fun i x h => by
    rw [List.getElem?_append_right (by omega), Nat.add_sub_cancel_left]; exact h
  have hF : ∀ q, va_A wc H.size q → A q := fun q h => by
    rcases h with ⟨i, e, h⟩ | h
    · exact hD.2 _ (q, e) (hC i _ h)
    · exact hA q h
  have apart : ∀ (i : Nat) (x : Nat × va_E), wr[i]? = some x → x.1 < H.size ∧ ¬ va_A wc H.size x.1 := by
    intro i x hx
    have hl := (hP i x (hR i x hx)).lt
    refine ⟨hl, fun h => ?_⟩
    rcases h with ⟨j, e, h⟩ | h
    · have h9 := hD.1 i (wr.length + j) x (x.1, e) (hR i x hx) (hC j _ h) rfl
      have := (List.getElem?_eq_some_iff.mp hx).1
      omega
    · omega
  refine ⟨va_P.app (fun i x hx => ?_) hP1, va_D.app ⟨fun i j x y hi hj hxy => hD.1 i j x y (hR i x hi) (hR j y hj) hxy, fun i x hx => hD.2 i x (hR i x hx)⟩ (hD1.weaken fun _ x _ h => hF x.1 h) (fun i j x y hx hy hxy => ?_)⟩
  · obtain ⟨g1, g2⟩ := apart i x hx
    exact (hP i x (hR i x hx)).kept (hk x.1 g1 g2)
  · exact (apart i x hx).2 (by rw [hxy]; exact hD1.2 j y hy)
theorem free2 {A : Nat → Prop} {wr wc : va_W} {sz : Nat} (hD : va_D A (wr ++ wc)) (hA : ∀ q : Nat, sz ≤ q → A q) : ∀ q, va_A wc sz q → A q := fun q h => by
  rcases h with ⟨i, e, h⟩ | h
  · exact hD.2 (wr.length + i) (q, e) (by rw [List.getElem?_append_right (by omega), Nat.add_sub_cancel_left]; exact h)
  · exact hA q h
theorem part2 {A : Nat → Prop} {D : va_G} {cl : List vw_C} {wr wc : va_W} {H : Heap} (hP : va_P D cl (wr ++ wc) H) (hD : va_D A (wr ++ wc)) : va_P D cl wc H ∧ va_D (fun _ => True) wc := by
  have hC : ∀ (i : Nat) (x : Nat × va_E), wc[i]? = some x → (wr ++ wc)[wr.length + i]? = some x := fun i x h => by
    rw [List.getElem?_append_right (by omega), Nat.add_sub_cancel_left]; exact h
  exact ⟨fun i x h => hP _ x (hC i x h), fun i j x y hi hj hxy => by have := hD.1 _ _ x y (hC i x hi) (hC j y hj) hxy; omega, fun _ _ _ => trivial⟩
section CALLS
variable {p : Program} {l : Launch} {e : Env} {R : Room} {s : State} {m : MethodId} {args : Array Value} {below : List Frame} {meth : Method} {c : Code}
variable {D : va_G} {cy : Nat → ClassId} {sa : Nat → Addr} {own : String} {cc : ByteArray} {nL : Nat} {ret : Option FieldType} {A : Nat → Prop} {Q : State → Prop} {k n : Nat} {ws : va_W} {pc : Nat} {lc : List (Nat × Value)} {st : List Value}
variable {Po : Option Value → va_W → Prop} {Px : String → va_W → Prop} {mc ms : Nat}
/-- a method's walk gives its contract -/
theorem Ct.of {y : MethodName} {maxL lev : Nat} {av : List Value} (hy : plainName y.cls = true) (hfl : l.stackTraces = false) (h0 : (lg_sl av).length ≤ maxL) (hown : y.cls = own) (hlc : lv_args 0 av = lc)
    (body : ∀ (p : Program) (e : Env) (s : State) (m : MethodId) (args : Array Value) (below : List Frame) (meth : Method) (c : Code) (A : Nat → Prop), Cx D cy sa own cc maxL ret A p l s m args meth c → (∀ x ∈ c.exceptionTable.toList, False) → meth.name = y.name →
      V D maxL A p l e (rmL lev mc ms) s m args below meth c (vx_MQ below (Qo D Po A) (Xo D Px A) args s mc ms A) 0 0 ws 0 lc []) : Ct l D cy sa y cc maxL ret lev mc ms ws av Po Px := by
  intro sz
  refine vx_ofW (cc := cc) (maxL := maxL) (ret := ret) hy rfl ?_
  intro p e s m args below meth c s₁ B hml hex hv
  obtain ⟨rfl, hsz, hP, hD0, hE⟩ := hv
  subst hsz
  have hts : ∀ w ∈ GW, w.before av.toArray s = true := fun w hw => atoms_spec (ws := .code y cc maxL ret :: GW) B.pre w (List.mem_cons_of_mem _ hw)
  have hA : ∀ q : Nat, s.heap.size ≤ q → va_A ws s.heap.size q := fun q h => Or.inr h
  have hD := hD0.self (sz := s.heap.size)
  have hC : Cx D cy sa own cc maxL ret (va_A ws s.heap.size) p l s m av.toArray meth c := ⟨B.exec, B.bytes, hml, hown ▸ findClass_of_methodNamed B.named, hts, hE, hA, B.notSynchronized, B.returns, hfl⟩
  have hl := lv_entry av (n := maxL) h0
  rw [hlc] at hl
  rw [lg_entry_eq]
  exact body p e s m _ below meth c _ hC hex (name_of_methodNamed B.named B.method).1 s.heap [] _ hP hD va_S.rf hl
theorem V.iret (C : Cx D cy sa own cc nL (some .int) A p l s m args meth c) {x : Int} (d : decode cc pc = .ok (.ireturn, 1)) (hk : k ≤ mc) (hn : n ≤ ms) (h : Po (some (vi x)) ws) : V D nL A p l e R s m args below meth c (vx_MQ below (Qo D Po A) (Xo D Px A) args s mc ms A) k n ws pc lc [vi x] := by
  intro H locs ls hP hD hS hl
  exact vx_ret (W.widen hk hn (W.iret C.exec C.bytes C.re (fun t ht hW => ⟨⟨_, ws, rfl, h, by rw [ht]; exact hP, hD⟩, hS.F ht⟩) hS.2.2 d C.locks))
theorem V.zret (C : Cx D cy sa own cc nL (some .boolean) A p l s m args meth c) {b : Bool} (d : decode cc pc = .ok (.ireturn, 1)) (hk : k ≤ mc) (hn : n ≤ ms) (h : Po (some (vi (bI b))) ws) : V D nL A p l e R s m args below meth c (vx_MQ below (Qo D Po A) (Xo D Px A) args s mc ms A) k n ws pc lc [vi (bI b)] := by
  intro H locs ls hP hD hS hl
  exact vx_ret (W.widen hk hn (W.zret C.exec C.bytes C.re (by cases b <;> rfl) (fun t ht hW => ⟨⟨_, ws, rfl, h, by rw [ht]; exact hP, hD⟩, hS.F ht⟩) hS.2.2 d C.locks))
theorem V.vret (C : Cx D cy sa own cc nL none A p l s m args meth c) (d : decode cc pc = .ok (.return_, 1)) (hk : k ≤ mc) (hn : n ≤ ms) (h : Po none ws) : V D nL A p l e R s m args below meth c (vx_MQ below (Qo D Po A) (Xo D Px A) args s mc ms A) k n ws pc lc [] := by
  intro H locs ls hP hD hS hl
  exact vx_ret (W.widen hk hn (W.vret C.exec C.bytes C.re (fun t ht hW => ⟨⟨_, ws, rfl, h, by rw [ht]; exact hP, hD⟩, hS.F ht⟩) hS.2.2 d C.locks))
theorem V.aret {rt : FieldType} (C : Cx D cy sa own cc nL (some rt) A p l s m args meth c) {a : Nat} (hrt : (∃ n, rt = .object n) ∨ ∃ t, rt = .array t) (d : decode cc pc = .ok (.areturn, 1)) (hk : k ≤ mc) (hn : n ≤ ms) (h : Po (some (.ref a)) ws) : V D nL A p l e R s m args below meth c (vx_MQ below (Qo D Po A) (Xo D Px A) args s mc ms A) k n ws pc lc [.ref a] := by
  intro H locs ls hP hD hS hl
  exact vx_ret (W.widen hk hn (W.aret C.exec C.bytes C.re hrt (Or.inr ⟨a, rfl⟩) (fun t ht hW => ⟨⟨_, ws, rfl, h, by rw [ht]; exact hP, hD⟩, hS.F ht⟩) hS.2.2 d C.locks))
/-- an exception goes on to the caller -/
theorem VX.out (C : Cx D cy sa own cc nL ret A p l s m args meth c) (hex : ∀ x ∈ c.exceptionTable.toList, False) {E : String} (hk : k ≤ mc) (hn : n ≤ ms) (h : Px E ws) : VX D nL A p l e R s m args below meth c (vx_MQ below (Qo D Po A) (Xo D Px A) args s mc ms A) k n ws pc lc st E := by
  intro H locs ls q ce hP hD hS hl h1 h2 h3
  exact vx_out (fun x hx => (hex x hx).elim) C.locks h1 h2 h3 (fun t ht hvm => ⟨ws, h, by rw [ht]; exact hP, hD, hS.F ht⟩) hS.2.2 hk hn
/-- a call that has run: what comes behind it -/
theorem V.run {wr wc : va_W} {st0 : List Value} {a : Array Value} (C : Cx D cy sa own cc nL ret A p l s m args meth c)
    (hr : ∀ (H : Heap) (locs : List Loc) (ls : Array Slot), va_P D vwCl (wr ++ wc) H → va_D A (wr ++ wc) → va_S A s.heap H locs → lv_has ls nL lc → vx_Run p l e R s m args below meth c H locs k n mc ms (F0 m pc ls st0) st (Qo D Po (va_A wc H.size) a) (Xo D Px (va_A wc H.size)) (va_A wc H.size))
    (kx : ∀ (E : String) (ws2 : va_W), Px E ws2 → VX D nL A p l e R s m args below meth c Q (k + mc) (n + ms) (wr ++ ws2) pc lc st E)
    (kk : ∀ (v : Option Value) (ws2 : va_W), Po v ws2 → V D nL A p l e R s m args below meth c Q (k + mc) (n + ms) (wr ++ ws2) (pc + 3) lc (v.toList ++ st)) : V D nL A p l e R s m args below meth c Q k n (wr ++ wc) pc lc st0 := by
  intro H locs ls hP hD hS hl T hT X
  have hA : ∀ q : Nat, H.size ≤ q → A q := fun q h => C.free q (Nat.le_trans hS.1 h)
  have hF := free2 hD hA
  rcases hr H locs ls hP hD hS hl T hT X with ⟨v, st₀, t, T', L, h0, X', hL, e1, e2, ⟨⟨v2, ws2, hv, hp, hP2, hD2⟩, hF2⟩, stp⟩ | ⟨q, st₀, t, T', L, E, ce, h0, X', hL, e1, e2, ⟨ws2, hp, hP2, hD2, hF2⟩, hce, hcv, hcl, stp⟩
  · cases hv
    obtain ⟨k1, k2, k3⟩ := vx_keep h0 e1 hS (fun q _ h => hF q h) hF hL hF2
    obtain ⟨j1, j2⟩ := join2 hP hD hA k2 (by rw [e1]; exact hP2) hD2
    obtain ⟨t2, a1, b1⟩ := kk v ws2 hp T'.heap (locs ++ L) ls j1 j2 k3 hl T' rfl X'
    exact ⟨t2, stp t2 a1, b1⟩
  · obtain ⟨k1, k2, k3⟩ := vx_keep h0 e1 hS (fun q _ h => hF q h) hF hL hF2
    obtain ⟨j1, j2⟩ := join2 hP hD hA k2 (by rw [e1]; exact hP2) hD2
    obtain ⟨t2, a1, b1⟩ := kx E ws2 hp T'.heap (locs ++ L) ls q ce j1 j2 k3 hl (by rw [e1]; exact hce) hcv hcl T' rfl X'
    exact ⟨t2, stp.trans a1, b1⟩
theorem Cx.pre (C : Cx D cy sa own cc nL ret A p l s m args meth c) {wr wc : va_W} {H : Heap} {locs : List Loc} (hP : va_P D vwCl (wr ++ wc) H) (hD : va_D A (wr ++ wc)) (hS : va_S A s.heap H locs) {U : State} (hU : U.heap = H) (hW : s.WarmedH U.vm) : preC D cy sa wc H.size U := by
  have hA : ∀ q : Nat, H.size ≤ q → A q := fun q h => C.free q (Nat.le_trans hS.1 h)
  obtain ⟨h1, h2⟩ := part2 hP hD
  refine ⟨by rw [hU], by rw [hU]; exact h1, h2, ?_⟩
  rw [hU]
  exact ((C.ev.kept hS.2.1).narrow (free2 hD hA)).warm hW
/-- the links of a call -/
def LkV (own : String) (idx : Nat) (Cn : String) (y : MethodName) (bytes : ByteArray) (maxL : Nat) (rt : Option FieldType) (na : Nat) : Prop :=
  Cond.methodLink own idx y ∈ GW ∧ Cond.instanceMethod y ∈ GW ∧ Cond.selects Cn y y ∈ GW ∧ Cond.initialized y.cls ∈ GW ∧ Cond.code y bytes maxL rt ∈ GW ∧ (y.cls ≠ "java/lang/invoke/MethodHandle" ∧ y.cls ≠ "java/lang/invoke/VarHandle" ∧ (parseMethodDescriptor y.desc).map (fun d => d.parameters.length) = some na)
def LkS (own : String) (idx : Nat) (y : MethodName) (bytes : ByteArray) (maxL : Nat) (rt : Option FieldType) (na : Nat) : Prop :=
  Cond.methodLink own idx y ∈ GW ∧ Cond.static y ∈ GW ∧ Cond.initialized y.cls ∈ GW ∧ Cond.code y bytes maxL rt ∈ GW ∧ (y.cls ≠ "java/lang/invoke/MethodHandle" ∧ y.cls ≠ "java/lang/invoke/VarHandle" ∧ (parseMethodDescriptor y.desc).map (fun d => d.parameters.length) = some na)
def LkI (own : String) (idx : Nat) (y : MethodName) (bytes : ByteArray) (maxL : Nat) (na : Nat) : Prop :=
  Cond.methodLink own idx y ∈ GW ∧ Cond.instanceMethod y ∈ GW ∧ Cond.initialized y.cls ∈ GW ∧ Cond.code y bytes maxL none ∈ GW ∧ y.name = "<init>" ∧ (y.cls ≠ "java/lang/invoke/MethodHandle" ∧ y.cls ≠ "java/lang/invoke/VarHandle" ∧ (parseMethodDescriptor y.desc).map (fun d => d.parameters.length) = some na)
variable {y : MethodName} {ccy : ByteArray} {maxL na lev idx : Nat} {rt : Option FieldType} {As : List Value} {st0 : List Value} {b : Nat} {wr wc : va_W}
theorem V.callV (C : Cx D cy sa own cc nL ret A p l s m args meth c) {Cn : String} (hk : LkV own idx Cn y ccy maxL rt na) (hM : Ct l D cy sa y ccy maxL rt lev mc ms wc (.ref b :: As) Po Px) (hw : ws = wr ++ wc)
    {ci N : Nat} {T : u_T} {fs : List Value} (q0 : Nat) (he : ws[q0]? = some (b, .inr (ci, fs))) (hc : vwCl[ci]? = some (Cn, T, N)) (hs : st0 = As.reverse ++ .ref b :: st) (hn : As.length = na) (hW : (st.map fun v => v.category).sum ≤ 8)
    (hR : lev + 1 ≤ R.frames ∧ 8 + (maxL + 11) + 37 * lev ≤ R.locals) (hf : k + mc ≤ R.cells ∧ n + ms ≤ R.slots) (d : decode cc pc = .ok (.invokevirtual idx, 3))
    (kx : ∀ (E : String) (ws2 : va_W), Px E ws2 → VX D nL A p l e R s m args below meth c Q (k + mc) (n + ms) (wr ++ ws2) pc lc st E)
    (kk : ∀ (v : Option Value) (ws2 : va_W), Po v ws2 → V D nL A p l e R s m args below meth c Q (k + mc) (n + ms) (wr ++ ws2) (pc + 3) lc (v.toList ++ st)) : V D nL A p l e R s m args below meth c Q k n ws pc lc st0 := by
  subst hw
  refine V.run (a := (Value.ref b :: As).toArray) C (fun H locs ls hP hD hS hl => ?_) kx kk
  obtain ⟨g1, g2, g3, g4, g5, g6⟩ := hk
  exact vx_runV ⟨C.exec, C.bytes, C.locals, C.ow, C.hts⟩ (hM H.size) ⟨callB_of na C.hts (gw_ct g5) rfl rfl rfl (C.hts _ g4) (C.hts _ g1) g6 hR, C.hts _ g2, C.hts _ g3⟩ ⟨preC.blind, va_recv C.ev.1 hP hc he, fun U hU hW9 => ⟨rfl, C.pre hP hD hS hU hW9⟩⟩ rfl hn hl.1 hs (lv_room hW) d hf
theorem V.callS (C : Cx D cy sa own cc nL ret A p l s m args meth c) (hk : LkS own idx y ccy maxL rt na) (hM : Ct l D cy sa y ccy maxL rt lev mc ms wc As Po Px) (hw : ws = wr ++ wc)
    (hs : st0 = As.reverse ++ st) (hn : As.length = na) (hW : (st.map fun v => v.category).sum ≤ 8)
    (hR : lev + 1 ≤ R.frames ∧ 8 + (maxL + 11) + 37 * lev ≤ R.locals) (hf : k + mc ≤ R.cells ∧ n + ms ≤ R.slots) (d : decode cc pc = .ok (.invokestatic idx, 3))
    (kx : ∀ (E : String) (ws2 : va_W), Px E ws2 → VX D nL A p l e R s m args below meth c Q (k + mc) (n + ms) (wr ++ ws2) pc lc st E)
    (kk : ∀ (v : Option Value) (ws2 : va_W), Po v ws2 → V D nL A p l e R s m args below meth c Q (k + mc) (n + ms) (wr ++ ws2) (pc + 3) lc (v.toList ++ st)) : V D nL A p l e R s m args below meth c Q k n ws pc lc st0 := by
  subst hw
  refine V.run (a := As.toArray) C (fun H locs ls hP hD hS hl => ?_) kx kk
  obtain ⟨g1, g2, g3, g4, g5⟩ := hk
  exact vx_runS ⟨C.exec, C.bytes, C.locals, C.ow, C.hts⟩ (hM H.size) ⟨callB_of na C.hts (gw_ct g4) rfl rfl rfl (C.hts _ g3) (C.hts _ g1) g5 hR, C.hts _ g2⟩ ⟨preC.blind, fun U hU hW9 => ⟨rfl, C.pre hP hD hS hU hW9⟩⟩ rfl hn hl.1 hs (lv_room hW) d hf
theorem V.callI (C : Cx D cy sa own cc nL ret A p l s m args meth c) (hk : LkI own idx y ccy maxL na) (hM : Ct l D cy sa y ccy maxL none lev mc ms wc (.ref b :: As) Po Px) (hw : ws = wr ++ wc)
    (hs : st0 = As.reverse ++ .ref b :: st) (hn : As.length = na) (hW : (st.map fun v => v.category).sum ≤ 8)
    (hR : lev + 1 ≤ R.frames ∧ 8 + (maxL + 11) + 37 * lev ≤ R.locals) (hf : k + mc ≤ R.cells ∧ n + ms ≤ R.slots) (d : decode cc pc = .ok (.invokespecial idx, 3))
    (kx : ∀ (E : String) (ws2 : va_W), Px E ws2 → VX D nL A p l e R s m args below meth c Q (k + mc) (n + ms) (wr ++ ws2) pc lc st E)
    (kk : ∀ (v : Option Value) (ws2 : va_W), Po v ws2 → V D nL A p l e R s m args below meth c Q (k + mc) (n + ms) (wr ++ ws2) (pc + 3) lc (v.toList ++ st)) : V D nL A p l e R s m args below meth c Q k n ws pc lc st0 := by
  subst hw
  refine V.run (a := (Value.ref b :: As).toArray) C (fun H locs ls hP hD hS hl => ?_) kx kk
  obtain ⟨g1, g2, g3, g4, g5, g6⟩ := hk
  exact vx_runI ⟨C.exec, C.bytes, C.locals, C.ow, C.hts⟩ (hM H.size) ⟨callB_of na C.hts (gw_ct g4) rfl rfl rfl (C.hts _ g3) (C.hts _ g1) g6 hR, g5, C.hts _ g2⟩ ⟨preC.blind, fun U hU hW9 => ⟨rfl, C.pre hP hD hS hU hW9⟩⟩ rfl hn hl.1 hs (lv_room hW) d hf
/-- the nest mate's static call of isDay -/
theorem V.callN (C : Cx D cy sa own cc nL ret A p l s m args meth c) (hq : (own, idx) ∈ xNest) (hM : Ct l D cy sa yX2_isDay cX2_isDay 1 (some .boolean) lev mc ms wc As Po Px) (hw : ws = wr ++ wc)
    (hs : st0 = As.reverse ++ st) (hn : As.length = 1) (hW : (st.map fun v => v.category).sum ≤ 8)
    (hR : lev + 1 ≤ R.frames ∧ 8 + (1 + 11) + 37 * lev ≤ R.locals) (hf : k + mc ≤ R.cells ∧ n + ms ≤ R.slots) (d : decode cc pc = .ok (.invokestatic idx, 3))
    (kx : ∀ (E : String) (ws2 : va_W), Px E ws2 → VX D nL A p l e R s m args below meth c Q (k + mc) (n + ms) (wr ++ ws2) pc lc st E)
    (kk : ∀ (v : Option Value) (ws2 : va_W), Po v ws2 → V D nL A p l e R s m args below meth c Q (k + mc) (n + ms) (wr ++ ws2) (pc + 3) lc (v.toList ++ st)) : V D nL A p l e R s m args below meth c Q k n ws pc lc st0 := by
  subst hw
  refine V.run (a := As.toArray) C (fun H locs ls hP hD hS hl => ?_) kx kk
  exact vx_runSN (host := RX2) ⟨C.exec, C.bytes, C.locals, C.ow, C.hts⟩ (hM H.size) ⟨va_cnB 1 C.hts (gw_ct co_X2_isDay) rfl rfl rfl (C.ev.2.2.2.1 _ hq) (C.hts _ in_X2) (by decide +kernel) hR, C.hts _ st_X2_isDay, trivial⟩ ⟨preC.blind, fun U hU hW9 => ⟨rfl, C.pre hP hD hS hU hW9⟩⟩ rfl hn hl.1 hs (lv_room hW) d hf
end CALLS
