section ROWS
variable {p : Program} {l : Launch} {e : Env} {R : Room} {s : State} {m : MethodId} {args : Array Value} {below : List Frame} {meth : Method} {c : Code}
variable {D : va_G} {cy : Nat → ClassId} {sa : Nat → Addr} {own : String} {cc : ByteArray} {nL : Nat} {ret : Option FieldType} {A : Nat → Prop} {Q : State → Prop} {k n : Nat} {ws : va_W} {pc : Nat} {lc : List (Nat × Value)} {st : List Value}
theorem Cx.exec (C : Cx D cy sa own cc nL ret A p l s m args meth c) : p.tables.exec = Jvm.exec := C.1
theorem Cx.bytes (C : Cx D cy sa own cc nL ret A p l s m args meth c) : c.code = cc := C.2.1
theorem Cx.locals (C : Cx D cy sa own cc nL ret A p l s m args meth c) : c.maxLocals = nL := C.2.2.1
theorem Cx.ow (C : Cx D cy sa own cc nL ret A p l s m args meth c) : s.vm.findClass own = some m.cls := C.2.2.2.1
theorem Cx.hts (C : Cx D cy sa own cc nL ret A p l s m args meth c) : ∀ w ∈ GW, w.before args s = true := C.2.2.2.2.1
theorem Cx.ev (C : Cx D cy sa own cc nL ret A p l s m args meth c) : Ev D cy sa A s s.heap := C.2.2.2.2.2.1
theorem Cx.free (C : Cx D cy sa own cc nL ret A p l s m args meth c) : ∀ q : Nat, s.heap.size ≤ q → A q := C.2.2.2.2.2.2.1
theorem Cx.locks (C : Cx D cy sa own cc nL ret A p l s m args meth c) : meth.locks = false := C.2.2.2.2.2.2.2.1
theorem Cx.re (C : Cx D cy sa own cc nL ret A p l s m args meth c) : meth.sig.returnType = ret := C.2.2.2.2.2.2.2.2.1
theorem Cx.trace (C : Cx D cy sa own cc nL ret A p l s m args meth c) : l.stackTraces = false := C.2.2.2.2.2.2.2.2.2

theorem V.iload_n (C : Cx D cy sa own cc nL ret A p l s m args meth c) {i : Fin 4} {x : Int} (d : decode cc pc = .ok (.iload_n i, 1)) (j : Nat) (h : lc[j]? = some ((i : Nat), vi x)) (kk : V D nL A p l e R s m args below meth c Q k n ws (pc + 1) lc (vi x :: st)) : V D nL A p l e R s m args below meth c Q k n ws pc lc st := by
  intro H locs ls hP hD hS hl
  exact lv_iload_n C.exec C.bytes d rfl (lv_at hl j h) (kk H locs ls hP hD hS hl)
theorem V.iload (C : Cx D cy sa own cc nL ret A p l s m args meth c) {i : Nat} {x : Int} (d : decode cc pc = .ok (.iload i, 2)) (j : Nat) (h : lc[j]? = some (i, vi x)) (kk : V D nL A p l e R s m args below meth c Q k n ws (pc + 2) lc (vi x :: st)) : V D nL A p l e R s m args below meth c Q k n ws pc lc st := by
  intro H locs ls hP hD hS hl
  exact lv_iload C.exec C.bytes d (lv_at hl j h) (kk H locs ls hP hD hS hl)
theorem V.istore_n (C : Cx D cy sa own cc nL ret A p l s m args meth c) {i : Fin 4} {x : Int} {lc2 : List (Nat × Value)} (d : decode cc pc = .ok (.istore_n i, 1)) (hn : (i : Nat) < nL) (h : ((i : Nat), Value.int (zI x)) :: lc.filter (fun q => !(q.1 == (i : Nat)) && !(q.1 + 1 == (i : Nat) && q.2.category == 2)) = lc2) (kk : V D nL A p l e R s m args below meth c Q k n ws (pc + 1) lc2 st) : V D nL A p l e R s m args below meth c Q k n ws pc lc (vi x :: st) := by
  intro H locs ls hP hD hS hl
  exact lv_istore_n C.exec C.bytes d rfl hl hn h (fun ls2 hl2 => kk H locs ls2 hP hD hS hl2)
theorem V.istore (C : Cx D cy sa own cc nL ret A p l s m args meth c) {i : Nat} {x : Int} {lc2 : List (Nat × Value)} (d : decode cc pc = .ok (.istore i, 2)) (hn : i < nL) (h : (i, Value.int (zI x)) :: lc.filter (fun q => !(q.1 == i) && !(q.1 + 1 == i && q.2.category == 2)) = lc2) (kk : V D nL A p l e R s m args below meth c Q k n ws (pc + 2) lc2 st) : V D nL A p l e R s m args below meth c Q k n ws pc lc (vi x :: st) := by
  intro H locs ls hP hD hS hl
  exact lv_istore C.exec C.bytes d hl hn h (fun ls2 hl2 => kk H locs ls2 hP hD hS hl2)
theorem V.aload_n (C : Cx D cy sa own cc nL ret A p l s m args meth c) {i : Fin 4} {x : Nat} (d : decode cc pc = .ok (.aload_n i, 1)) (j : Nat) (h : lc[j]? = some ((i : Nat), .ref x)) (kk : V D nL A p l e R s m args below meth c Q k n ws (pc + 1) lc (.ref x :: st)) : V D nL A p l e R s m args below meth c Q k n ws pc lc st := by
  intro H locs ls hP hD hS hl
  exact lv_aload_n C.exec C.bytes d rfl (lv_at hl j h) (kk H locs ls hP hD hS hl)
theorem V.aload (C : Cx D cy sa own cc nL ret A p l s m args meth c) {i : Nat} {x : Nat} (d : decode cc pc = .ok (.aload i, 2)) (j : Nat) (h : lc[j]? = some (i, .ref x)) (kk : V D nL A p l e R s m args below meth c Q k n ws (pc + 2) lc (.ref x :: st)) : V D nL A p l e R s m args below meth c Q k n ws pc lc st := by
  intro H locs ls hP hD hS hl
  exact lv_aload C.exec C.bytes d (lv_at hl j h) (kk H locs ls hP hD hS hl)
theorem V.astore_n (C : Cx D cy sa own cc nL ret A p l s m args meth c) {i : Fin 4} {x : Nat} {lc2 : List (Nat × Value)} (d : decode cc pc = .ok (.astore_n i, 1)) (hn : (i : Nat) < nL) (h : ((i : Nat), Value.ref x) :: lc.filter (fun q => !(q.1 == (i : Nat)) && !(q.1 + 1 == (i : Nat) && q.2.category == 2)) = lc2) (kk : V D nL A p l e R s m args below meth c Q k n ws (pc + 1) lc2 st) : V D nL A p l e R s m args below meth c Q k n ws pc lc (.ref x :: st) := by
  intro H locs ls hP hD hS hl
  exact lv_astore_n C.exec C.bytes d rfl hl hn h (fun ls2 hl2 => kk H locs ls2 hP hD hS hl2)
theorem V.astore (C : Cx D cy sa own cc nL ret A p l s m args meth c) {i : Nat} {x : Nat} {lc2 : List (Nat × Value)} (d : decode cc pc = .ok (.astore i, 2)) (hn : i < nL) (h : (i, Value.ref x) :: lc.filter (fun q => !(q.1 == i) && !(q.1 + 1 == i && q.2.category == 2)) = lc2) (kk : V D nL A p l e R s m args below meth c Q k n ws (pc + 2) lc2 st) : V D nL A p l e R s m args below meth c Q k n ws pc lc (.ref x :: st) := by
  intro H locs ls hP hD hS hl
  exact lv_astore C.exec C.bytes d hl hn h (fun ls2 hl2 => kk H locs ls2 hP hD hS hl2)
theorem V.iinc (C : Cx D cy sa own cc nL ret A p l s m args meth c) {i : Nat} {z x : Int} {lc2 : List (Nat × Value)} (d : decode cc pc = .ok (.iinc i z, 3)) (j : Nat) (hj : lc[j]? = some (i, vi x)) (hn : i < nL) (h : (i, vi (x + z)) :: lc.filter (fun q => !(q.1 == i) && !(q.1 + 1 == i && q.2.category == 2)) = lc2) (kk : V D nL A p l e R s m args below meth c Q k n ws (pc + 3) lc2 st) : V D nL A p l e R s m args below meth c Q k n ws pc lc st := by
  intro H locs ls hP hD hS hl
  exact lv_iinc C.exec C.bytes d hl hj (zI_add x z) hn h (fun ls2 hl2 => kk H locs ls2 hP hD hS hl2)
theorem V.iconst (C : Cx D cy sa own cc nL ret A p l s m args meth c) {z : Int} (d : decode cc pc = .ok (.iconst z, 1)) (kk : V D nL A p l e R s m args below meth c Q k n ws (pc + 1) lc (vi z :: st)) : V D nL A p l e R s m args below meth c Q k n ws pc lc st := by
  intro H locs ls hP hD hS hl
  exact lv_iconst C.exec C.bytes d rfl (kk H locs ls hP hD hS hl)
theorem V.bipush (C : Cx D cy sa own cc nL ret A p l s m args meth c) {z : Int} (d : decode cc pc = .ok (.bipush z, 2)) (hz : (Int8.ofInt z).toInt32 = zI z) (kk : V D nL A p l e R s m args below meth c Q k n ws (pc + 2) lc (vi z :: st)) : V D nL A p l e R s m args below meth c Q k n ws pc lc st := by
  intro H locs ls hP hD hS hl
  exact lv_bipush C.exec C.bytes d hz (kk H locs ls hP hD hS hl)
theorem V.sipush (C : Cx D cy sa own cc nL ret A p l s m args meth c) {z : Int} (d : decode cc pc = .ok (.sipush z, 3)) (hz : (Int16.ofInt z).toInt32 = zI z) (kk : V D nL A p l e R s m args below meth c Q k n ws (pc + 3) lc (vi z :: st)) : V D nL A p l e R s m args below meth c Q k n ws pc lc st := by
  intro H locs ls hP hD hS hl
  exact lv_sipush C.exec C.bytes d hz (kk H locs ls hP hD hS hl)
theorem V.iadd (C : Cx D cy sa own cc nL ret A p l s m args meth c) {x y : Int} (d : decode cc pc = .ok (.iadd, 1)) (kk : V D nL A p l e R s m args below meth c Q k n ws (pc + 1) lc (vi (x + y) :: st)) : V D nL A p l e R s m args below meth c Q k n ws pc lc (vi y :: vi x :: st) := by
  intro H locs ls hP hD hS hl
  have h := kk H locs ls hP hD hS hl
  rw [show vi (x + y) = .int (zI x + zI y) by rw [zI_add]] at h
  exact lv_iadd C.exec C.bytes d h
theorem V.isub (C : Cx D cy sa own cc nL ret A p l s m args meth c) {x y : Int} (d : decode cc pc = .ok (.isub, 1)) (kk : V D nL A p l e R s m args below meth c Q k n ws (pc + 1) lc (vi (x - y) :: st)) : V D nL A p l e R s m args below meth c Q k n ws pc lc (vi y :: vi x :: st) := by
  intro H locs ls hP hD hS hl
  have h := kk H locs ls hP hD hS hl
  rw [show vi (x - y) = .int (zI x - zI y) by rw [zI_sub]] at h
  exact lv_isub C.exec C.bytes d h
theorem V.imul (C : Cx D cy sa own cc nL ret A p l s m args meth c) {x y : Int} (d : decode cc pc = .ok (.imul, 1)) (kk : V D nL A p l e R s m args below meth c Q k n ws (pc + 1) lc (vi (x * y) :: st)) : V D nL A p l e R s m args below meth c Q k n ws pc lc (vi y :: vi x :: st) := by
  intro H locs ls hP hD hS hl
  have h := kk H locs ls hP hD hS hl
  rw [show vi (x * y) = .int (zI x * zI y) by rw [zI_mul]] at h
  exact lv_imul C.exec C.bytes d h
theorem V.idiv (C : Cx D cy sa own cc nL ret A p l s m args meth c) {x y : Int} (d : decode cc pc = .ok (.idiv, 1)) (hx : inR x) (hx0 : 0 ≤ x) (hy : inR y) (hy0 : 0 < y) (kk : V D nL A p l e R s m args below meth c Q k n ws (pc + 1) lc (vi (x / y) :: st)) : V D nL A p l e R s m args below meth c Q k n ws pc lc (vi y :: vi x :: st) := by
  intro H locs ls hP hD hS hl
  have h := kk H locs ls hP hD hS hl
  rw [show vi (x / y) = .int (zI x / zI y) by rw [zI_div hx hx0 hy hy0]] at h
  exact lv_idiv C.exec C.bytes d (zI_ne0 hy (by omega)) h
theorem V.irem (C : Cx D cy sa own cc nL ret A p l s m args meth c) {x y : Int} (d : decode cc pc = .ok (.irem, 1)) (hx : inR x) (hx0 : 0 ≤ x) (hy : inR y) (hy0 : 0 < y) (kk : V D nL A p l e R s m args below meth c Q k n ws (pc + 1) lc (vi (x % y) :: st)) : V D nL A p l e R s m args below meth c Q k n ws pc lc (vi y :: vi x :: st) := by
  intro H locs ls hP hD hS hl
  have h := kk H locs ls hP hD hS hl
  rw [show vi (x % y) = .int (zI x - zI x / zI y * zI y) by rw [zI_rem hx hx0 hy hy0]] at h
  exact lv_irem C.exec C.bytes d (zI_ne0 hy (by omega)) h
theorem V.iand (C : Cx D cy sa own cc nL ret A p l s m args meth c) {x y z : Int} (d : decode cc pc = .ok (.iand, 1)) (hz : zI x &&& zI y = zI z) (kk : V D nL A p l e R s m args below meth c Q k n ws (pc + 1) lc (vi z :: st)) : V D nL A p l e R s m args below meth c Q k n ws pc lc (vi y :: vi x :: st) := by
  intro H locs ls hP hD hS hl
  have h := kk H locs ls hP hD hS hl
  rw [show vi z = .int (zI x &&& zI y) by rw [hz]] at h
  exact lv_iand C.exec C.bytes d h
theorem V.ior (C : Cx D cy sa own cc nL ret A p l s m args meth c) {x y z : Int} (d : decode cc pc = .ok (.ior, 1)) (hz : zI x ||| zI y = zI z) (kk : V D nL A p l e R s m args below meth c Q k n ws (pc + 1) lc (vi z :: st)) : V D nL A p l e R s m args below meth c Q k n ws pc lc (vi y :: vi x :: st) := by
  intro H locs ls hP hD hS hl
  have h := kk H locs ls hP hD hS hl
  rw [show vi z = .int (zI x ||| zI y) by rw [hz]] at h
  exact lv_ior C.exec C.bytes d h
theorem V.ishl (C : Cx D cy sa own cc nL ret A p l s m args meth c) {x y z : Int} (d : decode cc pc = .ok (.ishl, 1)) (hz : zI x <<< (zI y &&& 31) = zI z) (kk : V D nL A p l e R s m args below meth c Q k n ws (pc + 1) lc (vi z :: st)) : V D nL A p l e R s m args below meth c Q k n ws pc lc (vi y :: vi x :: st) := by
  intro H locs ls hP hD hS hl
  have h := kk H locs ls hP hD hS hl
  rw [show vi z = .int (zI x <<< (zI y &&& 31)) by rw [hz]] at h
  exact lv_ishl C.exec C.bytes d h
theorem V.ishr (C : Cx D cy sa own cc nL ret A p l s m args meth c) {x y z : Int} (d : decode cc pc = .ok (.ishr, 1)) (hz : zI x >>> (zI y &&& 31) = zI z) (kk : V D nL A p l e R s m args below meth c Q k n ws (pc + 1) lc (vi z :: st)) : V D nL A p l e R s m args below meth c Q k n ws pc lc (vi y :: vi x :: st) := by
  intro H locs ls hP hD hS hl
  have h := kk H locs ls hP hD hS hl
  rw [show vi z = .int (zI x >>> (zI y &&& 31)) by rw [hz]] at h
  exact lv_ishr C.exec C.bytes d h
theorem V.i2l (C : Cx D cy sa own cc nL ret A p l s m args meth c) {x : Int} (d : decode cc pc = .ok (.i2l, 1)) (kk : V D nL A p l e R s m args below meth c Q k n ws (pc + 1) lc (.long (zI x).toInt64 :: st)) : V D nL A p l e R s m args below meth c Q k n ws pc lc (vi x :: st) := by
  intro H locs ls hP hD hS hl
  exact lv_i2l C.exec C.bytes d rfl (kk H locs ls hP hD hS hl)
theorem V.pop (C : Cx D cy sa own cc nL ret A p l s m args meth c) {v : Value} (d : decode cc pc = .ok (.pop, 1)) (hv : v.category = 1) (kk : V D nL A p l e R s m args below meth c Q k n ws (pc + 1) lc st) : V D nL A p l e R s m args below meth c Q k n ws pc lc (v :: st) := by
  intro H locs ls hP hD hS hl
  exact lv_pop C.exec C.bytes d hv (kk H locs ls hP hD hS hl)
theorem V.dup (C : Cx D cy sa own cc nL ret A p l s m args meth c) {v : Value} (d : decode cc pc = .ok (.dup, 1)) (hv : v.category = 1) (kk : V D nL A p l e R s m args below meth c Q k n ws (pc + 1) lc (v :: v :: st)) : V D nL A p l e R s m args below meth c Q k n ws pc lc (v :: st) := by
  intro H locs ls hP hD hS hl
  exact lv_dup C.exec C.bytes d hv (kk H locs ls hP hD hS hl)
theorem V.dup_x1 (C : Cx D cy sa own cc nL ret A p l s m args meth c) {v w : Value} (d : decode cc pc = .ok (.dup_x1, 1)) (hv : v.category = 1) (hw : w.category = 1) (kk : V D nL A p l e R s m args below meth c Q k n ws (pc + 1) lc (v :: w :: v :: st)) : V D nL A p l e R s m args below meth c Q k n ws pc lc (v :: w :: st) := by
  intro H locs ls hP hD hS hl
  exact lv_dup_x1 C.exec C.bytes d hv hw (kk H locs ls hP hD hS hl)
theorem V.dup2 (C : Cx D cy sa own cc nL ret A p l s m args meth c) {v w : Value} (d : decode cc pc = .ok (.dup2, 1)) (hv : v.category = 1) (hw : w.category = 1) (kk : V D nL A p l e R s m args below meth c Q k n ws (pc + 1) lc (v :: w :: v :: w :: st)) : V D nL A p l e R s m args below meth c Q k n ws pc lc (v :: w :: st) := by
  intro H locs ls hP hD hS hl
  exact lv_dup2_11 C.exec C.bytes d hv hw (kk H locs ls hP hD hS hl)
theorem V.goto (C : Cx D cy sa own cc nL ret A p l s m args meth c) {off : Int} (tgt : Nat) (d : decode cc pc = .ok (.goto off, 3)) (ht : (pc : Int) + off = (tgt : Int)) (kk : V D nL A p l e R s m args below meth c Q k n ws tgt lc st) : V D nL A p l e R s m args below meth c Q k n ws pc lc st := by
  intro H locs ls hP hD hS hl
  exact lv_goto C.exec C.bytes d ht (kk H locs ls hP hD hS hl)
theorem V.if_eq (C : Cx D cy sa own cc nL ret A p l s m args meth c) {x : Int} {off : Int} (tgt : Nat) (d : decode cc pc = .ok (.ifCond .eq off, 3)) (ht : (pc : Int) + off = (tgt : Int)) (hx : inR x) (kt : x = 0 → V D nL A p l e R s m args below meth c Q k n ws tgt lc st) (kf : ¬ x = 0 → V D nL A p l e R s m args below meth c Q k n ws (pc + 3) lc st) : V D nL A p l e R s m args below meth c Q k n ws pc lc (vi x :: st) := by
  intro H locs ls hP hD hS hl
  exact lv_if_eq C.exec C.bytes d ht (fun h => kt ((zI_eq hx inR_0).mp h) H locs ls hP hD hS hl) (fun h => kf (fun z => h ((zI_eq hx inR_0).mpr z)) H locs ls hP hD hS hl)
theorem V.if_ne (C : Cx D cy sa own cc nL ret A p l s m args meth c) {x : Int} {off : Int} (tgt : Nat) (d : decode cc pc = .ok (.ifCond .ne off, 3)) (ht : (pc : Int) + off = (tgt : Int)) (hx : inR x) (kt : ¬ x = 0 → V D nL A p l e R s m args below meth c Q k n ws tgt lc st) (kf : x = 0 → V D nL A p l e R s m args below meth c Q k n ws (pc + 3) lc st) : V D nL A p l e R s m args below meth c Q k n ws pc lc (vi x :: st) := by
  intro H locs ls hP hD hS hl
  exact lv_if_ne C.exec C.bytes d ht (fun h => kt (fun z => h ((zI_eq hx inR_0).mpr z)) H locs ls hP hD hS hl) (fun h => kf ((zI_eq hx inR_0).mp h) H locs ls hP hD hS hl)
theorem V.if_lt (C : Cx D cy sa own cc nL ret A p l s m args meth c) {x : Int} {off : Int} (tgt : Nat) (d : decode cc pc = .ok (.ifCond .lt off, 3)) (ht : (pc : Int) + off = (tgt : Int)) (hx : inR x) (kt : x < 0 → V D nL A p l e R s m args below meth c Q k n ws tgt lc st) (kf : ¬ x < 0 → V D nL A p l e R s m args below meth c Q k n ws (pc + 3) lc st) : V D nL A p l e R s m args below meth c Q k n ws pc lc (vi x :: st) := by
  intro H locs ls hP hD hS hl
  exact lv_if_lt C.exec C.bytes d ht (fun h => kt ((zI_lt hx inR_0).mp h) H locs ls hP hD hS hl) (fun h => kf (fun z => h ((zI_lt hx inR_0).mpr z)) H locs ls hP hD hS hl)
theorem V.if_ge (C : Cx D cy sa own cc nL ret A p l s m args meth c) {x : Int} {off : Int} (tgt : Nat) (d : decode cc pc = .ok (.ifCond .ge off, 3)) (ht : (pc : Int) + off = (tgt : Int)) (hx : inR x) (kt : 0 ≤ x → V D nL A p l e R s m args below meth c Q k n ws tgt lc st) (kf : ¬ 0 ≤ x → V D nL A p l e R s m args below meth c Q k n ws (pc + 3) lc st) : V D nL A p l e R s m args below meth c Q k n ws pc lc (vi x :: st) := by
  intro H locs ls hP hD hS hl
  exact lv_if_ge C.exec C.bytes d ht (fun h => kt ((zI_le inR_0 hx).mp h) H locs ls hP hD hS hl) (fun h => kf (fun z => h ((zI_le inR_0 hx).mpr z)) H locs ls hP hD hS hl)
theorem V.if_gt (C : Cx D cy sa own cc nL ret A p l s m args meth c) {x : Int} {off : Int} (tgt : Nat) (d : decode cc pc = .ok (.ifCond .gt off, 3)) (ht : (pc : Int) + off = (tgt : Int)) (hx : inR x) (kt : 0 < x → V D nL A p l e R s m args below meth c Q k n ws tgt lc st) (kf : ¬ 0 < x → V D nL A p l e R s m args below meth c Q k n ws (pc + 3) lc st) : V D nL A p l e R s m args below meth c Q k n ws pc lc (vi x :: st) := by
  intro H locs ls hP hD hS hl
  exact lv_if_gt C.exec C.bytes d ht (fun h => kt ((zI_lt inR_0 hx).mp h) H locs ls hP hD hS hl) (fun h => kf (fun z => h ((zI_lt inR_0 hx).mpr z)) H locs ls hP hD hS hl)
theorem V.if_le (C : Cx D cy sa own cc nL ret A p l s m args meth c) {x : Int} {off : Int} (tgt : Nat) (d : decode cc pc = .ok (.ifCond .le off, 3)) (ht : (pc : Int) + off = (tgt : Int)) (hx : inR x) (kt : x ≤ 0 → V D nL A p l e R s m args below meth c Q k n ws tgt lc st) (kf : ¬ x ≤ 0 → V D nL A p l e R s m args below meth c Q k n ws (pc + 3) lc st) : V D nL A p l e R s m args below meth c Q k n ws pc lc (vi x :: st) := by
  intro H locs ls hP hD hS hl
  exact lv_if_le C.exec C.bytes d ht (fun h => kt ((zI_le hx inR_0).mp h) H locs ls hP hD hS hl) (fun h => kf (fun z => h ((zI_le hx inR_0).mpr z)) H locs ls hP hD hS hl)
theorem V.if_eqB (C : Cx D cy sa own cc nL ret A p l s m args meth c) {b : Bool} {off : Int} (tgt : Nat) (d : decode cc pc = .ok (.ifCond .eq off, 3)) (ht : (pc : Int) + off = (tgt : Int)) (kt : b = false → V D nL A p l e R s m args below meth c Q k n ws tgt lc st) (kf : b = true → V D nL A p l e R s m args below meth c Q k n ws (pc + 3) lc st) : V D nL A p l e R s m args below meth c Q k n ws pc lc (vi (bI b) :: st) := by
  intro H locs ls hP hD hS hl
  exact V.if_eq C tgt d ht (inR_bI b) (fun h => kt (bI_0.mp h)) (fun h => kf (by cases b <;> simp_all [bI])) H locs ls hP hD hS hl
theorem V.if_neB (C : Cx D cy sa own cc nL ret A p l s m args meth c) {b : Bool} {off : Int} (tgt : Nat) (d : decode cc pc = .ok (.ifCond .ne off, 3)) (ht : (pc : Int) + off = (tgt : Int)) (kt : b = true → V D nL A p l e R s m args below meth c Q k n ws tgt lc st) (kf : b = false → V D nL A p l e R s m args below meth c Q k n ws (pc + 3) lc st) : V D nL A p l e R s m args below meth c Q k n ws pc lc (vi (bI b) :: st) := by
  intro H locs ls hP hD hS hl
  exact V.if_ne C tgt d ht (inR_bI b) (fun h => kt (by cases b <;> simp_all [bI])) (fun h => kf (bI_0.mp h)) H locs ls hP hD hS hl
theorem V.icmp_eq (C : Cx D cy sa own cc nL ret A p l s m args meth c) {x y : Int} {off : Int} (tgt : Nat) (d : decode cc pc = .ok (.if_icmp .eq off, 3)) (ht : (pc : Int) + off = (tgt : Int)) (hx : inR x) (hy : inR y) (kt : x = y → V D nL A p l e R s m args below meth c Q k n ws tgt lc st) (kf : ¬ x = y → V D nL A p l e R s m args below meth c Q k n ws (pc + 3) lc st) : V D nL A p l e R s m args below meth c Q k n ws pc lc (vi y :: vi x :: st) := by
  intro H locs ls hP hD hS hl
  exact lv_icmp_eq C.exec C.bytes d ht (fun h => kt ((zI_eq hx hy).mp h) H locs ls hP hD hS hl) (fun h => kf (fun z => h ((zI_eq hx hy).mpr z)) H locs ls hP hD hS hl)
theorem V.icmp_ne (C : Cx D cy sa own cc nL ret A p l s m args meth c) {x y : Int} {off : Int} (tgt : Nat) (d : decode cc pc = .ok (.if_icmp .ne off, 3)) (ht : (pc : Int) + off = (tgt : Int)) (hx : inR x) (hy : inR y) (kt : ¬ x = y → V D nL A p l e R s m args below meth c Q k n ws tgt lc st) (kf : x = y → V D nL A p l e R s m args below meth c Q k n ws (pc + 3) lc st) : V D nL A p l e R s m args below meth c Q k n ws pc lc (vi y :: vi x :: st) := by
  intro H locs ls hP hD hS hl
  exact lv_icmp_ne C.exec C.bytes d ht (fun h => kt (fun z => h ((zI_eq hx hy).mpr z)) H locs ls hP hD hS hl) (fun h => kf ((zI_eq hx hy).mp h) H locs ls hP hD hS hl)
theorem V.icmp_lt (C : Cx D cy sa own cc nL ret A p l s m args meth c) {x y : Int} {off : Int} (tgt : Nat) (d : decode cc pc = .ok (.if_icmp .lt off, 3)) (ht : (pc : Int) + off = (tgt : Int)) (hx : inR x) (hy : inR y) (kt : x < y → V D nL A p l e R s m args below meth c Q k n ws tgt lc st) (kf : ¬ x < y → V D nL A p l e R s m args below meth c Q k n ws (pc + 3) lc st) : V D nL A p l e R s m args below meth c Q k n ws pc lc (vi y :: vi x :: st) := by
  intro H locs ls hP hD hS hl
  exact lv_icmp_lt C.exec C.bytes d ht (fun h => kt ((zI_lt hx hy).mp h) H locs ls hP hD hS hl) (fun h => kf (fun z => h ((zI_lt hx hy).mpr z)) H locs ls hP hD hS hl)
theorem V.icmp_ge (C : Cx D cy sa own cc nL ret A p l s m args meth c) {x y : Int} {off : Int} (tgt : Nat) (d : decode cc pc = .ok (.if_icmp .ge off, 3)) (ht : (pc : Int) + off = (tgt : Int)) (hx : inR x) (hy : inR y) (kt : y ≤ x → V D nL A p l e R s m args below meth c Q k n ws tgt lc st) (kf : ¬ y ≤ x → V D nL A p l e R s m args below meth c Q k n ws (pc + 3) lc st) : V D nL A p l e R s m args below meth c Q k n ws pc lc (vi y :: vi x :: st) := by
  intro H locs ls hP hD hS hl
  exact lv_icmp_ge C.exec C.bytes d ht (fun h => kt ((zI_le hy hx).mp h) H locs ls hP hD hS hl) (fun h => kf (fun z => h ((zI_le hy hx).mpr z)) H locs ls hP hD hS hl)
theorem V.icmp_gt (C : Cx D cy sa own cc nL ret A p l s m args meth c) {x y : Int} {off : Int} (tgt : Nat) (d : decode cc pc = .ok (.if_icmp .gt off, 3)) (ht : (pc : Int) + off = (tgt : Int)) (hx : inR x) (hy : inR y) (kt : y < x → V D nL A p l e R s m args below meth c Q k n ws tgt lc st) (kf : ¬ y < x → V D nL A p l e R s m args below meth c Q k n ws (pc + 3) lc st) : V D nL A p l e R s m args below meth c Q k n ws pc lc (vi y :: vi x :: st) := by
  intro H locs ls hP hD hS hl
  exact lv_icmp_gt C.exec C.bytes d ht (fun h => kt ((zI_lt hy hx).mp h) H locs ls hP hD hS hl) (fun h => kf (fun z => h ((zI_lt hy hx).mpr z)) H locs ls hP hD hS hl)
theorem V.icmp_le (C : Cx D cy sa own cc nL ret A p l s m args meth c) {x y : Int} {off : Int} (tgt : Nat) (d : decode cc pc = .ok (.if_icmp .le off, 3)) (ht : (pc : Int) + off = (tgt : Int)) (hx : inR x) (hy : inR y) (kt : x ≤ y → V D nL A p l e R s m args below meth c Q k n ws tgt lc st) (kf : ¬ x ≤ y → V D nL A p l e R s m args below meth c Q k n ws (pc + 3) lc st) : V D nL A p l e R s m args below meth c Q k n ws pc lc (vi y :: vi x :: st) := by
  intro H locs ls hP hD hS hl
  exact lv_icmp_le C.exec C.bytes d ht (fun h => kt ((zI_le hx hy).mp h) H locs ls hP hD hS hl) (fun h => kf (fun z => h ((zI_le hx hy).mpr z)) H locs ls hP hD hS hl)
theorem V.table (C : Cx D cy sa own cc nL ret A p l s m args meth c) {dflt lo hi : Int} {offs : Array Int} {len : Nat} {x : Int} (tgt : Nat) (d : decode cc pc = .ok (.tableswitch dflt lo hi offs, len)) (hx : inR x) (off : Int) (ho : (if x < lo ∨ hi < x then some dflt else offs[(x - lo).toNat]?) = some off) (ht : (pc : Int) + off = (tgt : Int)) (kk : V D nL A p l e R s m args below meth c Q k n ws tgt lc st) : V D nL A p l e R s m args below meth c Q k n ws pc lc (vi x :: st) := by
  intro H locs ls hP hD hS hl
  by_cases hh : x < lo ∨ hi < x
  · rw [if_pos hh] at ho
    cases ho
    exact lv_tableOut C.exec C.bytes d (by rw [zI_toInt hx]; exact hh) ht (kk H locs ls hP hD hS hl)
  · rw [if_neg hh] at ho
    exact lv_tableIn C.exec C.bytes d (by rw [zI_toInt hx]; omega) (by rw [zI_toInt hx]; omega) (by rw [zI_toInt hx]; exact ho) ht (kk H locs ls hP hD hS hl)
theorem V.getf (C : Cx D cy sa own cc nL ret A p l s m args meth c) {Cn ref : String} {T : u_T} {N ci index : Nat} {fs : List Value} {a : Nat} (q0 : Nat) (he : ws[q0]? = some (a, .inr (ci, fs))) (hc : vwCl[ci]? = some (Cn, T, N)) (hin : ∀ w ∈ u_ws Cn T N, w ∈ GW) (j : Nat) (hj : j < N) (hlink : Cond.fieldLink own index ref (T j).2.1 (T j).2.2.1 ∈ GW) (hsame : ∀ x, s.fieldFound? (T j).1 (T j).2.1 (T j).2.2.1 = some x → s.fieldFound? ref (T j).2.1 (T j).2.2.1 = some x) {v : Value} (hv : fs[j]? = some v) (d : decode cc pc = .ok (.getfield index, 3)) (kk : V D nL A p l e R s m args below meth c Q k n ws (pc + 3) lc (v :: st)) : V D nL A p l e R s m args below meth c Q k n ws pc lc (.ref a :: st) := by
  intro H locs ls hP hD hS hl
  exact va_get C.exec C.bytes C.hts hin C.ow C.ev.1 hP q0 he hc j hj (C.hts _ hlink) hsame hv d (kk H locs ls hP hD hS hl)
theorem V.putf (C : Cx D cy sa own cc nL ret A p l s m args meth c) {Cn ref : String} {T : u_T} {N ci index : Nat} {fs : List Value} {a : Nat} {ws2 : va_W} (q0 : Nat) (he : ws[q0]? = some (a, .inr (ci, fs))) (hc : vwCl[ci]? = some (Cn, T, N)) (hin : ∀ w ∈ u_ws Cn T N, w ∈ GW) (ty0 : Nat → FieldType) (hty : ∀ k, k < N → parseFieldDescriptor (T k).2.2.1 = some (ty0 k)) (hnm : ∀ a, a < N → ∀ b, b < N → a ≠ b → (T a).2.1 ≠ (T b).2.1) (j : Nat) (hj : j < N) (hlink : Cond.fieldLink own index ref (T j).2.1 (T j).2.2.1 ∈ GW) (hsame : ∀ x, s.fieldFound? (T j).1 (T j).2.1 (T j).2.2.1 = some x → s.fieldFound? ref (T j).2.1 (T j).2.2.1 = some x) (hfin : (T j).2.2.2 = false) {ty : FieldType} {v : Value} (hd : parseFieldDescriptor (T j).2.2.1 = some ty) (hn : narrow ty v = v) (hfit : fits ty v = true) (hl0 : j < fs.length) (d : decode cc pc = .ok (.putfield index, 3)) (hw : ws.set q0 (a, .inr (ci, fs.set j v)) = ws2) (kk : V D nL A p l e R s m args below meth c Q k n ws2 (pc + 3) lc st) : V D nL A p l e R s m args below meth c Q k n ws pc lc (v :: .ref a :: st) := by
  intro H locs ls hP hD hS hl
  subst hw
  exact va_put C.exec C.bytes C.hts hin ty0 hty hnm C.ow C.ev.1 hP hD hS q0 he hc j hj (C.hts _ hlink) hsame hfin hd hn hfit hl0 d (fun H2 locs2 hP2 hD2 hS2 => kk H2 locs2 ls hP2 hD2 hS2 hl)
theorem V.putF (C : Cx D cy sa own cc nL ret A p l s m args meth c) {Cn ref : String} {T : u_T} {N ci index : Nat} {fs : List Value} {a : Nat} {ws2 : va_W} (q0 : Nat) (he : ws[q0]? = some (a, .inr (ci, fs))) (hc : vwCl[ci]? = some (Cn, T, N)) (hin : ∀ w ∈ u_ws Cn T N, w ∈ GW) (ty0 : Nat → FieldType) (hty : ∀ k, k < N → parseFieldDescriptor (T k).2.2.1 = some (ty0 k)) (hnm : ∀ a, a < N → ∀ b, b < N → a ≠ b → (T a).2.1 ≠ (T b).2.1) (j : Nat) (hj : j < N) (hlink : Cond.fieldLink own index ref (T j).2.1 (T j).2.2.1 ∈ GW) (hsame : ∀ x, s.fieldFound? (T j).1 (T j).2.1 (T j).2.2.1 = some x → s.fieldFound? ref (T j).2.1 (T j).2.2.1 = some x) (hfin : (T j).2.2.2 = true) (hin2 : meth.name = "<init>") (hdecl : (T j).1 = own) {ty : FieldType} {v : Value} (hd : parseFieldDescriptor (T j).2.2.1 = some ty) (hn : narrow ty v = v) (hfit : fits ty v = true) (hl0 : j < fs.length) (d : decode cc pc = .ok (.putfield index, 3)) (hw : ws.set q0 (a, .inr (ci, fs.set j v)) = ws2) (kk : V D nL A p l e R s m args below meth c Q k n ws2 (pc + 3) lc st) : V D nL A p l e R s m args below meth c Q k n ws pc lc (v :: .ref a :: st) := by
  intro H locs ls hP hD hS hl
  subst hw
  exact va_putF C.exec C.bytes C.hts hin ty0 hty hnm C.ow C.ev.1 hP hD hS q0 he hc j hj (C.hts _ hlink) hsame hfin hin2 hdecl hd hn hfit hl0 d (fun H2 locs2 hP2 hD2 hS2 => kk H2 locs2 ls hP2 hD2 hS2 hl)
theorem V.iald (C : Cx D cy sa own cc nL ret A p l s m args meth c) {a N : Nat} {f : Nat → Int32} {i v : Int} (q0 : Nat) (he : ws[q0]? = some (a, .inl (cy 0, N, .inl f))) (h0 : 0 ≤ i) (h1 : i < (N : Int)) (hN : N ≤ 65536) (hv : f i.toNat = zI v) (d : decode cc pc = .ok (.iaload, 1)) (kk : V D nL A p l e R s m args below meth c Q k n ws (pc + 1) lc (vi v :: st)) : V D nL A p l e R s m args below meth c Q k n ws pc lc (vi i :: .ref a :: st) := by
  intro H locs ls hP hD hS hl
  have h := kk H locs ls hP hD hS hl
  rw [show vi v = .int (f (zI i).toNatClampNeg) by rw [zI_clamp ⟨by omega, by omega⟩, hv]] at h
  exact va_iald C.exec C.bytes C.ev.1 hP q0 0 he rfl (zI_in h0 h1 hN) d h
theorem V.zald (C : Cx D cy sa own cc nL ret A p l s m args meth c) {a N : Nat} {f : Nat → Int32} {i v : Int} (q0 : Nat) (he : ws[q0]? = some (a, .inl (cy 1, N, .inl f))) (h0 : 0 ≤ i) (h1 : i < (N : Int)) (hN : N ≤ 65536) (hv : f i.toNat = zI v) (d : decode cc pc = .ok (.baload, 1)) (kk : V D nL A p l e R s m args below meth c Q k n ws (pc + 1) lc (vi v :: st)) : V D nL A p l e R s m args below meth c Q k n ws pc lc (vi i :: .ref a :: st) := by
  intro H locs ls hP hD hS hl
  have h := kk H locs ls hP hD hS hl
  rw [show vi v = .int (f (zI i).toNatClampNeg) by rw [zI_clamp ⟨by omega, by omega⟩, hv]] at h
  exact va_zald C.exec C.bytes C.ev.1 hP q0 1 he rfl (zI_in h0 h1 hN) d h
theorem V.iast (C : Cx D cy sa own cc nL ret A p l s m args meth c) {a N : Nat} {f : Nat → Int32} {i x : Int} {ws2 : va_W} (q0 : Nat) (he : ws[q0]? = some (a, .inl (cy 0, N, .inl f))) (h0 : 0 ≤ i) (h1 : i < (N : Int)) (hN : N ≤ 65536) (d : decode cc pc = .ok (.iastore, 1)) (hw : ws.set q0 (a, .inl (cy 0, N, .inl (upd f i.toNat (zI x)))) = ws2) (kk : V D nL A p l e R s m args below meth c Q k n ws2 (pc + 1) lc st) : V D nL A p l e R s m args below meth c Q k n ws pc lc (vi x :: vi i :: .ref a :: st) := by
  intro H locs ls hP hD hS hl
  subst hw
  refine va_iast C.exec C.bytes C.ev.1 hP hD hS q0 0 he rfl (zI_in h0 h1 hN) d (fun H2 locs2 hP2 hD2 hS2 => ?_)
  rw [zI_clamp ⟨by omega, by omega⟩] at hP2 hD2
  exact kk H2 locs2 ls hP2 hD2 hS2 hl
theorem nar_bI (b : Bool) : vp_nar .boolean (zI (bI b)) = zI (bI b) := by cases b <;> rfl
theorem V.zast (C : Cx D cy sa own cc nL ret A p l s m args meth c) {a N : Nat} {f : Nat → Int32} {i : Int} {b : Bool} {ws2 : va_W} (q0 : Nat) (he : ws[q0]? = some (a, .inl (cy 1, N, .inl f))) (h0 : 0 ≤ i) (h1 : i < (N : Int)) (hN : N ≤ 65536) (d : decode cc pc = .ok (.bastore, 1)) (hw : ws.set q0 (a, .inl (cy 1, N, .inl (upd f i.toNat (zI (bI b))))) = ws2) (kk : V D nL A p l e R s m args below meth c Q k n ws2 (pc + 1) lc st) : V D nL A p l e R s m args below meth c Q k n ws pc lc (vi (bI b) :: vi i :: .ref a :: st) := by
  intro H locs ls hP hD hS hl
  subst hw
  refine va_zast C.exec C.bytes C.ev.1 hP hD hS q0 1 he rfl (zI_in h0 h1 hN) d (fun H2 locs2 hP2 hD2 hS2 => ?_)
  rw [zI_clamp ⟨by omega, by omega⟩, nar_bI] at hP2 hD2
  exact kk H2 locs2 ls hP2 hD2 hS2 hl
theorem V.lsub {lc2 : List (Nat × Value)} (h : lc.all (fun q => decide (q ∈ lc2)) = true) (kk : V D nL A p l e R s m args below meth c Q k n ws pc lc st) : V D nL A p l e R s m args below meth c Q k n ws pc lc2 st := by
  intro H locs ls hP hD hS hl
  refine kk H locs ls hP hD hS ⟨hl.1, hl.2.1, fun q hq => hl.2.2 q ?_⟩
  exact of_decide_eq_true (List.all_eq_true.mp h q hq)
theorem V.sub {lc2 : List (Nat × Value)} (is : List Nat) (h : lv_pick lc2 is = lc) (kk : V D nL A p l e R s m args below meth c Q k n ws pc lc st) : V D nL A p l e R s m args below meth c Q k n ws pc lc2 st := fun H locs ls hP hD hS hl => kk H locs ls hP hD hS (lv_sub hl is h)
theorem V.to {ws2 : va_W} {pc2 : Nat} {lc2 : List (Nat × Value)} {st2 : List Value} (h1 : ws2 = ws) (h2 : pc2 = pc) (h3 : lc2 = lc) (h4 : st2 = st) (kk : V D nL A p l e R s m args below meth c Q k n ws pc lc st) : V D nL A p l e R s m args below meth c Q k n ws2 pc2 lc2 st2 := by subst h1 h2 h3 h4; exact kk
theorem V.widen {k2 n2 : Nat} (h1 : k ≤ k2) (h2 : n ≤ n2) (kk : V D nL A p l e R s m args below meth c Q k2 n2 ws pc lc st) : V D nL A p l e R s m args below meth c Q k n ws pc lc st := fun H locs ls hP hD hS hl => W.widen h1 h2 (kk H locs ls hP hD hS hl)
end ROWS
