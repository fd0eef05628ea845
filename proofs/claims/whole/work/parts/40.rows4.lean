/-! rows for the law: longs, exceptions caught, the script -/
theorem W.lcmp9 {p : Program} {l : Launch} {e : Env} {R : Room} {s : State} {m : MethodId} {args : Array Value} {below : List Frame} {meth : Method} {c : Code} {H : Heap} {locs : List Loc} {cells slots : Nat} {Q : State → Prop} {cc : ByteArray} (hexec : p.tables.exec = Jvm.exec) (hb : c.code = cc) {x : Int64} {pc : Nat} {ls : Array Slot} {rest : List Value} (hdg : decode cc pc = .ok (.lcmp, 1))
    (k : W p l e R s m args below meth c H locs cells slots Q (F0 m (pc + 1) ls (.int 0 :: rest))) : W p l e R s m args below meth c H locs cells slots Q (F0 m pc ls (.long x :: .long x :: rest)) := by
  refine W.lcmp hexec hb hdg ?_
  have e0 : lg_cmp x x = 0 := by simp [lg_cmp]
  rw [e0]; exact k
def L64 (b : Bool) : Int64 := if b = true then 1 else 0
def R64 (r : Int) : Int64 := (zI r).toInt64
/-- the class's world with the array for the answer -/
def wx (cy : Nat → ClassId) (sa : Nat → Addr) (o : Nat) (f : Nat → Int64) (ad : Nat → Nat) (n : Nat) (M : Nat → Int → Int) : va_W := [(o, .inl (cy 3, 1, .inr (.inl f)))] ++ cl cy (sa 100) ad n M
section ROWS4
variable {p : Program} {l : Launch} {e : Env} {R : Room} {s : State} {m : MethodId} {args : Array Value} {below : List Frame} {meth : Method} {c : Code}
variable {D : va_G} {cy : Nat → ClassId} {sa : Nat → Addr} {own : String} {cc : ByteArray} {nL : Nat} {ret : Option FieldType} {A : Nat → Prop} {Q : State → Prop} {k n : Nat} {ws : va_W} {pc : Nat} {lc : List (Nat × Value)} {st : List Value}
theorem V.lconst (C : Cx D cy sa own cc nL ret A p l s m args meth c) {i : Fin 2} {v : Int64} (d : decode cc pc = .ok (.lconst i, 1)) (hv : Int64.ofNat (i : Nat) = v) (kk : V D nL A p l e R s m args below meth c Q k n ws (pc + 1) lc (.long v :: st)) : V D nL A p l e R s m args below meth c Q k n ws pc lc st := by
  intro H locs ls hP hD hS hl
  exact lv_lconst C.exec C.bytes d hv (kk H locs ls hP hD hS hl)
theorem V.lald (C : Cx D cy sa own cc nL ret A p l s m args meth c) {a N : Nat} {f : Nat → Int64} {i : Int} {v : Int64} (q0 : Nat) (he : ws[q0]? = some (a, .inl (cy 3, N, .inr (.inl f)))) (h0 : 0 ≤ i) (h1 : i < (N : Int)) (hN : N ≤ 65536) (hv : f i.toNat = v) (d : decode cc pc = .ok (.laload, 1))
    (kk : V D nL A p l e R s m args below meth c Q k n ws (pc + 1) lc (.long v :: st)) : V D nL A p l e R s m args below meth c Q k n ws pc lc (vi i :: .ref a :: st) := by
  intro H locs ls hP hD hS hl
  have h := kk H locs ls hP hD hS hl
  rw [← hv, show i.toNat = (zI i).toNatClampNeg by rw [zI_clamp ⟨by omega, by omega⟩]] at h
  exact va_lald C.exec C.bytes C.ev.1 hP q0 3 he rfl (zI_in h0 h1 hN) d h
theorem V.last (C : Cx D cy sa own cc nL ret A p l s m args meth c) {a N : Nat} {f : Nat → Int64} {i : Int} {v : Int64} {ws2 : va_W} (q0 : Nat) (he : ws[q0]? = some (a, .inl (cy 3, N, .inr (.inl f)))) (h0 : 0 ≤ i) (h1 : i < (N : Int)) (hN : N ≤ 65536) (d : decode cc pc = .ok (.lastore, 1))
    (hw : ws.set q0 (a, .inl (cy 3, N, .inr (.inl (vp_updL f i.toNat v)))) = ws2)
    (kk : V D nL A p l e R s m args below meth c Q k n ws2 (pc + 1) lc st) : V D nL A p l e R s m args below meth c Q k n ws pc lc (.long v :: vi i :: .ref a :: st) := by
  intro H locs ls hP hD hS hl
  subst hw
  refine va_last C.exec C.bytes C.ev.1 hP hD hS q0 3 he rfl (zI_in h0 h1 hN) d (fun H1 locs1 hP1 hD1 hS1 => ?_)
  rw [zI_clamp ⟨by omega, by omega⟩] at hP1 hD1
  exact kk H1 locs1 ls hP1 hD1 hS1 hl
theorem V.newL (C : Cx D cy sa own cc nL ret A p l s m args meth c) {z : Int} (N : Nat) (hz : z = (N : Int)) (hN : N ≤ 65536) (h1 : k + 1 ≤ R.cells) (h2 : n + N ≤ R.slots) (d : decode cc pc = .ok (.newarray .long, 2))
    (kk : ∀ q : Nat, V D nL A p l e R s m args below meth c Q (k + 1) (n + N) (ws ++ [(q, .inl (cy 3, N, .inr (.inl (fun _ => 0))))]) (pc + 2) lc (.ref q :: st)) : V D nL A p l e R s m args below meth c Q k n ws pc lc (vi z :: st) := by
  intro H locs ls hP hD hS hl
  have hr : inR z := ⟨by omega, by omega⟩
  refine va_newa (atype := .long) (ty := .long) (N' := N) (a0 := (N, .inr (.inl (fun _ => 0)))) C.exec C.bytes (C.hts _ ac_long) rfl C.ev.1 hP hD hS C.free (fun cA => rfl) (by rw [show (0 : Int32) = zI 0 from rfl, zI_lt hr inR_0]; omega) (by rw [zI_clamp hr]; omega) (by show N * 8 ≤ _; omega) h1 h2 d (fun q cA H1 hK hP2 hD2 hS2 => ?_)
  have e9 : cA = cy 3 := ty_same (tys := tyL cy) hK 3 rfl
  subst e9
  exact kk q H1 locs ls hP2 hD2 hS2 hl
theorem V.lcmpE (C : Cx D cy sa own cc nL ret A p l s m args meth c) {x y : Int64} (d : decode cc pc = .ok (.lcmp, 1)) (hxy : x = y) (kk : V D nL A p l e R s m args below meth c Q k n ws (pc + 1) lc (vi 0 :: st)) : V D nL A p l e R s m args below meth c Q k n ws pc lc (.long y :: .long x :: st) := by
  intro H locs ls hP hD hS hl
  subst hxy
  exact W.lcmp9 C.exec C.bytes d (kk H locs ls hP hD hS hl)
/-- an exception is caught by the i-th entry of the method's table -/
theorem VX.catch (C : Cx D cy sa own cc nL ret A p l s m args meth c) {E name : String} {hh : List (Nat × Nat × Nat × Nat)} (hex : c.exceptionTable.toList = tableOf hh) (pre : List ExceptionTableEntry) (x : ExceptionTableEntry) (suf : List ExceptionTableEntry) (hsplit : tableOf hh = pre ++ x :: suf)
    (hpass : ∀ z ∈ pre, ∃ nm : String, z.catchType ≠ 0 ∧ Cond.classLink own z.catchType nm ∈ GW ∧ (E, nm) ∈ xNc) (hx : covers x pc = true) (h0 : x.catchType ≠ 0) (hlink : Cond.classLink own x.catchType name ∈ GW) (hcast : (E, name) ∈ xCast)
    (kk : ∀ q : Nat, V D nL A p l e R s m args below meth c Q k n ws x.handlerPc lc [.ref q]) : VX D nL A p l e R s m args below meth c Q k n ws pc lc st E := by
  intro H locs ls q ce hP hD hS hl h1 h2 h3
  refine vx_catch C.ow pre x suf (hex.trans hsplit) (fun z hz => ?_) hx h0 (C.hts _ hlink) (va_Nw.use rfl (C.ev.2.2.2.2.2.1 _ hcast)) h1 h2 h3 (kk q H locs ls hP hD hS hl)
  obtain ⟨nm, g1, g2, g3⟩ := hpass z hz
  exact Or.inr ⟨g1, nm, C.hts _ g2, C.ev.2.2.2.2.2.2.2.2.2 _ g3⟩
/-- the contract of a method with a table of exceptions -/
def CtX (l : Launch) (D : va_G) (cy : Nat → ClassId) (sa : Nat → Addr) (y : MethodName) (cc : ByteArray) (maxL : Nat) (ret : Option FieldType) (hh : List (Nat × Nat × Nat × Nat)) (lev mc ms : Nat) (ws : va_W) (av : List Value) (Po : Option Value → va_W → Prop) (Px : String → va_W → Prop) : Prop :=
  ∀ sz : Nat, vx_Met l y (.codeWith y cc maxL ret hh :: GW) (rmL lev mc ms) (va_Pc av (preC D cy sa ws sz)) (Qo D Po (va_A ws sz)) (Xo D Px (va_A ws sz)) mc ms (va_A ws sz)
variable {Po : Option Value → va_W → Prop} {Px : String → va_W → Prop} {mc ms : Nat}
theorem CtX.of {y : MethodName} {maxL lev : Nat} {av : List Value} {hh : List (Nat × Nat × Nat × Nat)} (hy : plainName y.cls = true) (hfl : l.stackTraces = false) (h0 : (lg_sl av).length ≤ maxL) (hown : y.cls = own) (hlc : lv_args 0 av = lc)
    (body : ∀ (p : Program) (e : Env) (s : State) (m : MethodId) (args : Array Value) (below : List Frame) (meth : Method) (c : Code) (A : Nat → Prop), Cx D cy sa own cc maxL ret A p l s m args meth c → c.exceptionTable.toList = tableOf hh → meth.name = y.name →
      V D maxL A p l e (rmL lev mc ms) s m args below meth c (vx_MQ below (Qo D Po A) (Xo D Px A) args s mc ms A) 0 0 ws 0 lc []) : CtX l D cy sa y cc maxL ret hh lev mc ms ws av Po Px := by
  intro sz
  refine vx_ofWH (cc := cc) (maxL := maxL) (ret := ret) (hh := hh) hy rfl ?_
  intro p e s m args below meth c s₁ B hml hv
  obtain ⟨rfl, hsz, hP, hD0, hE⟩ := hv
  subst hsz
  have hpre := atoms_spec (ws := .codeWith y cc maxL ret hh :: GW) B.pre
  have hts : ∀ w ∈ GW, w.before av.toArray s = true := fun w hw => hpre w (List.mem_cons_of_mem _ hw)
  have hA : ∀ q : Nat, s.heap.size ≤ q → va_A ws s.heap.size q := fun q h => Or.inr h
  have hD := hD0.self (sz := s.heap.size)
  have hC : Cx D cy sa own cc maxL ret (va_A ws s.heap.size) p l s m av.toArray meth c := ⟨B.exec, B.bytes, hml, hown ▸ findClass_of_methodNamed B.named, hts, hE, hA, B.notSynchronized, B.returns, hfl⟩
  have hl := lv_entry av (n := maxL) h0
  rw [hlc] at hl
  rw [lg_entry_eq]
  exact body p e s m _ below meth c _ hC (vx_table (x := y) B (hpre _ List.mem_cons_self)) (name_of_methodNamed B.named B.method).1 s.heap [] _ hP hD va_S.rf hl
def LkSX (own : String) (idx : Nat) (y : MethodName) (bytes : ByteArray) (maxL : Nat) (rt : Option FieldType) (hh : List (Nat × Nat × Nat × Nat)) (na : Nat) : Prop :=
  Cond.methodLink own idx y ∈ GW ∧ Cond.static y ∈ GW ∧ Cond.initialized y.cls ∈ GW ∧ Cond.codeWith y bytes maxL rt hh ∈ GW ∧ (y.cls ≠ "java/lang/invoke/MethodHandle" ∧ y.cls ≠ "java/lang/invoke/VarHandle" ∧ (parseMethodDescriptor y.desc).map (fun d => d.parameters.length) = some na)
variable {y : MethodName} {ccy : ByteArray} {maxL na lev idx : Nat} {rt : Option FieldType} {As : List Value} {st0 : List Value} {b : Nat} {wr wc : va_W} {hh : List (Nat × Nat × Nat × Nat)}
theorem V.callSX (C : Cx D cy sa own cc nL ret A p l s m args meth c) (hk : LkSX own idx y ccy maxL rt hh na) (hM : CtX l D cy sa y ccy maxL rt hh lev mc ms wc As Po no_x) (hw : ws = wr ++ wc)
    (hs : st0 = As.reverse ++ st) (hn : As.length = na) (hW : (st.map fun v => v.category).sum ≤ 8)
    (hR : lev + 1 ≤ R.frames ∧ 8 + (maxL + 11) + 37 * lev ≤ R.locals) (hf : k + mc ≤ R.cells ∧ n + ms ≤ R.slots) (d : decode cc pc = .ok (.invokestatic idx, 3))
    (kk : ∀ (v : Option Value) (ws2 : va_W), Po v ws2 → V D nL A p l e R s m args below meth c Q (k + mc) (n + ms) (wr ++ ws2) (pc + 3) lc (v.toList ++ st)) : V D nL A p l e R s m args below meth c Q k n ws pc lc st0 := by
  subst hw
  refine V.run (Px := no_x) (a := As.toArray) C (fun H locs ls hP hD hS hl => ?_) (fun _ _ h => h.elim) kk
  obtain ⟨g1, g2, g3, g4, g5⟩ := hk
  have hG : GoodIn GW (va_wsS own idx y (.codeWith y ccy maxL rt hh :: GW)) := gw_in (fun w hw => by
    simp only [va_wsS, List.mem_append, List.mem_cons, List.not_mem_nil, or_false] at hw
    rcases hw with hw | hw | hw
    · rcases hw with rfl | rfl | rfl <;> assumption
    · exact hw ▸ g4
    · exact hw)
  exact vx_runSX ⟨C.exec, C.bytes, C.locals, C.ow, C.hts⟩ (hM H.size) (vx_cwSW na C.hts hG rfl rfl rfl g5 hR) ⟨preC.blind, fun U hU hW9 => ⟨rfl, C.pre hP hD hS hU hW9⟩⟩ rfl hn hl.1 hs (lv_room hW) d hf
/-- the script -/
theorem V.sld (C : Cx D cy sa own cc nL ret A p l s m args meth c) {b L : Nat} {xs : Nat → Int32} (hX : va_X b L xs s s.heap) (hbl : b < s.heap.size) (hbA : ¬ A b) (hL : L ≤ 65536) {i : Int} (h0 : 0 ≤ i) (h1 : i < (L : Int)) (d : decode cc pc = .ok (.iaload, 1))
    (kk : V D nL A p l e R s m args below meth c Q k n ws (pc + 1) lc (vi (xs i.toNat).toInt :: st)) : V D nL A p l e R s m args below meth c Q k n ws pc lc (vi i :: .ref b :: st) := by
  intro H locs ls hP hD hS hl
  have h := kk H locs ls hP hD hS hl
  rw [show (vi (xs i.toNat).toInt) = .int (xs (zI i).toNatClampNeg) by rw [zI_clamp ⟨by omega, by omega⟩]; show Value.int _ = _; rw [zI_of]] at h
  exact va_sld C.exec C.bytes hX hbl hbA hS (zI_in h0 h1 hL) d h
theorem V.slen9 (C : Cx D cy sa own cc nL ret A p l s m args meth c) {b L : Nat} {xs : Nat → Int32} (hX : va_X b L xs s s.heap) (hbl : b < s.heap.size) (hbA : ¬ A b) (d : decode cc pc = .ok (.arraylength, 1))
    (kk : V D nL A p l e R s m args below meth c Q k n ws (pc + 1) lc (vi (L : Int) :: st)) : V D nL A p l e R s m args below meth c Q k n ws pc lc (.ref b :: st) := by
  intro H locs ls hP hD hS hl
  have h := kk H locs ls hP hD hS hl
  rw [show (vi (L : Int)) = .int (Int32.ofNat L) by show Value.int _ = _; rw [zI_nat]; rfl] at h
  exact va_slen C.exec C.bytes hX hbl hbA hS d h
end ROWS4
