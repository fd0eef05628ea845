def xNames : List String := ["java/lang/RuntimeException", "java/lang/Exception"]
def xB : List Cond := (xDecl.map fun q => .declares (Bundle.initS q)) ++ xCast.map fun q => .castable q.1 q.2
theorem at_IOOBE : ∀ w ∈ (vx_atS RX2 188 "java/lang/IndexOutOfBoundsException" xNames).filter goodWord, w ∈ GW := gw_ps [18, 138, 147, 152, 155, 157, 139, 140, 38, 39, 141, 146, 153, 173, 128, 174, 130, 175, 132, 142, 144, 134, 169, 170, 172, 134, 160, 161, 162, 163, 163, 164, 165, 166, 166, 167, 168, 169, 159, 117, 125, 126, 127, 129, 131, 133, 137, 136, 135] (by decide +kernel) (by decide +kernel)
theorem ab_IOOBE : ∀ w ∈ (vx_atS RX2 188 "java/lang/IndexOutOfBoundsException" xNames).filter (fun w => !goodWord w), w ∈ xB := by decide +kernel
theorem ag_IOOBE : ∀ w ∈ Cond.classLink RX2 184 "java/lang/IndexOutOfBoundsException" :: Cond.initialized "java/lang/IndexOutOfBoundsException" :: vx_atS RX2 188 "java/lang/IndexOutOfBoundsException" xNames, vx_ot w = true := by decide +kernel
theorem at_IAE : ∀ w ∈ (vx_atS RX2 193 "java/lang/IllegalArgumentException" xNames).filter goodWord, w ∈ GW := gw_ps [18, 138, 147, 152, 155, 157, 139, 140, 38, 39, 141, 146, 153, 173, 128, 174, 130, 175, 132, 142, 144, 134, 169, 170, 172, 134, 249, 250, 251, 163, 163, 164, 165, 166, 166, 167, 168, 169, 248, 239, 241, 149, 242, 243, 244, 245, 137, 136, 246] (by decide +kernel) (by decide +kernel)
theorem ab_IAE : ∀ w ∈ (vx_atS RX2 193 "java/lang/IllegalArgumentException" xNames).filter (fun w => !goodWord w), w ∈ xB := by decide +kernel
theorem ag_IAE : ∀ w ∈ Cond.classLink RX2 189 "java/lang/IllegalArgumentException" :: Cond.initialized "java/lang/IllegalArgumentException" :: vx_atS RX2 193 "java/lang/IllegalArgumentException" xNames, vx_ot w = true := by decide +kernel
theorem at_ISE : ∀ w ∈ (vx_atS RX2 68 "java/lang/IllegalStateException" xNames).filter goodWord, w ∈ GW := gw_ps [18, 138, 147, 152, 155, 157, 139, 140, 38, 39, 141, 146, 153, 173, 128, 174, 130, 175, 132, 142, 144, 134, 169, 170, 172, 134, 265, 266, 267, 163, 163, 164, 165, 166, 166, 167, 168, 169, 264, 255, 257, 150, 258, 259, 260, 261, 137, 136, 262] (by decide +kernel) (by decide +kernel)
theorem ab_ISE : ∀ w ∈ (vx_atS RX2 68 "java/lang/IllegalStateException" xNames).filter (fun w => !goodWord w), w ∈ xB := by decide +kernel
theorem ag_ISE : ∀ w ∈ Cond.classLink RX2 64 "java/lang/IllegalStateException" :: Cond.initialized "java/lang/IllegalStateException" :: vx_atS RX2 68 "java/lang/IllegalStateException" xNames, vx_ot w = true := by decide +kernel
def ns_at (own : String) (ic : Nat) (X Y : String) (r : List String) (ix : Nat) (rx : ByteArray) : List Cond :=
  Bundle.throwableAtoms ++ Bundle.throwableSAtoms ++ (Bundle.passSAtoms X Y ix rx ++ Bundle.chainSAtoms Y r) ++
  [.methodLink own ic (Bundle.initS X), .instantiable X 6, .castable X X, .selects X Bundle.tFill0 Bundle.tFill0, .selects X Bundle.tFill Bundle.tFill,
   .lays X Bundle.tN "cause" "Ljava/lang/Throwable;", .lays X Bundle.tN "stackTrace" Bundle.steD, .lays X Bundle.tN "suppressedExceptions" Bundle.listD, .lays X Bundle.tN "detailMessage" "Ljava/lang/String;",
   .isRef (.static Bundle.tN "UNASSIGNED_STACK" Bundle.steD), .isRef (.static Bundle.tN "SUPPRESSED_SENTINEL" Bundle.listD),
   .fieldLink Bundle.tN 198 Bundle.tN "backtrace" "Ljava/lang/Object;", .lays Bundle.tN Bundle.tN "backtrace" "Ljava/lang/Object;", .lays X Bundle.tN "backtrace" "Ljava/lang/Object;"]
theorem ns_chain {args : Array Value} {s : State} {pl : Platform} (hpl : pl.magicAccessors = ({} : Platform).magicAccessors) {top : MethodId} (htop : s.methodNamed? (Bundle.initS Bundle.tN) = some top)
    {ix : Nat} {rx : ByteArray} (x0 : decode rx 0 = .ok (.aload_n 0, 1)) (x1 : decode rx 1 = .ok (.aload_n 1, 1)) (x2 : decode rx 2 = .ok (.invokespecial ix, 3)) (x5 : decode rx 5 = .ok (.return_, 1))
    (X Y : String) (r : List String) (hX : Bundle.fit X = true) (hn : ∀ n ∈ Y :: r, Bundle.fit n = true) (h : ∀ c ∈ Bundle.passSAtoms X Y ix rx ++ Bundle.chainSAtoms Y r, c.before args s = true) :
    ∃ (P1 : PassC) (Ps : List PassC), Ps.length = (Y :: r).length ∧ P1.LinksS pl s ∧ (∀ P, P ∈ Ps → P.LinksS pl s) ∧ s.methodNamed? (Bundle.initS X) = some P1.m ∧ P1.sup = firstOf top (Ps.map (·.toPassT)) ∧ PassesOn top (Ps.map (·.toPassT)) := by
  obtain ⟨P, L, hm, hs⟩ := PassC.ofS_atoms (args := args) (s := s) hpl (X := X) (Y := Y) (Bundle.fit_spec hX).1 (Bundle.fit_spec (hn Y List.mem_cons_self)).2 x0 x1 x2 x5 (fun c hc => h c (List.mem_append_left _ hc))
  obtain ⟨P2, Ps, hlen, L2, hL, hm2, hsup, hpass⟩ := Bundle.chainS (args := args) hpl htop r Y (hn Y List.mem_cons_self) (fun n hn2 => hn n (List.mem_cons_of_mem _ hn2)) (fun c hc => h c (List.mem_append_right _ hc))
  refine ⟨P, P2 :: Ps, by simp [hlen], L, ?_, hm, Option.some.inj (hs.symm.trans hm2), hsup, hpass⟩
  intro Q hQ
  rcases List.mem_cons.mp hQ with rfl | hQ
  · exact L2
  · exact hL Q hQ
section NSA
variable {p : Program} {l : Launch} {e : Env} {R : Room} {s : State} {m₀ : MethodId} {args : Array Value} {below : List Frame} {meth : Method} {c : Code} {W : State} {locs : List Loc} {cells slots : Nat}
set_option maxHeartbeats 1000000 in
theorem ns_made (X : Stand p l e R s m₀ args below meth c W locs cells slots) (hexec : p.tables.exec = Jvm.exec) (htr : e.platform.stackTraces = false) {own cls : String} {Y0 : String} {r0 : List String} {ic ix0 : Nat} {rx0 : ByteArray} (x0 : decode rx0 0 = .ok (.aload_n 0, 1)) (x1 : decode rx0 1 = .ok (.aload_n 1, 1)) (x2 : decode rx0 2 = .ok (.invokespecial ix0, 3)) (x5 : decode rx0 5 = .ok (.return_, 1))
    (hown : s.vm.findClass own = some m₀.cls) (hcls : Bundle.fit cls = true) (hnames : ∀ n ∈ Y0 :: r0, Bundle.fit n = true)
    (h : ∀ a ∈ ns_at own ic cls Y0 r0 ix0 rx0, a.before args s = true)
    (hlocs : ∀ x ∈ locs, ∀ cell, s.heap[x.base]? = some cell → cell.vm.isStatics = false)
    {a : Addr} {cX : ClassId} {kX : Class} (hfoundX : s.vm.findClass cls = some cX) (hkX : s.vm.classes[cX]? = some kX) (hcell : W.heap[a]? = some (freshCell cX kX)) (hnew : s.heap.size ≤ a)
    {msg : Value} (hmsg : msg.isRef = true)
    {g : JFrame} (hg : g.method = m₀) (hsize : g.locals.size = c.maxLocals) {rest : List Value} (hstack : g.stack = msg :: .ref a :: .ref a :: rest)
    (hd6 : decode c.code g.pc = .ok (.invokespecial ic, 3))
    (hRframes : (Y0 :: r0).length + 3 < R.frames) (hRlocals : 2 * g.monitorRoom + ((Value.ref a :: rest).map fun v => v.category).sum + (13 * ((Y0 :: r0).length + 1) + 42) ≤ R.locals) :
    ∃ (V : State) (ce : Cell) (L : List Loc), Stand p l e R s m₀ args below meth c (V.setCell a ce) (locs ++ L) cells slots ∧ (∀ y ∈ L, y.base = a) ∧ a < V.heap.size ∧ ce.cls = cX ∧ ce.vm = .none ∧
      ∀ target, Steps p.tables e below ((V.setCell a ce).setTop { g with stack := .ref a :: rest, pc := g.pc + 3 }) target → Steps p.tables e below (W.setTop g) target := by
  have howns : e.platform.frameOwnsMonitors = true := by rw [X.admits.platform]
  have hfin : e.platform.finalization = false := by rw [X.admits.platform]
  have hpl : e.platform.magicAccessors = ({} : Platform).magicAccessors := by rw [X.admits.platform]
  have a' : ∀ x, x ∈ ns_at own ic cls Y0 r0 ix0 rx0 → x.holds args s none s [] = true := fun x hx => h x hx
  obtain ⟨T, Z0, L, -, Y⟩ := ThrowableC.of_atoms (args := args) howns hfin hpl (fun x hx => h x (by simp [ns_at, hx]))
  obtain ⟨Z, M, LZ, LM, hnZ⟩ := Init0T.ofS_atoms (args := args) hpl L Y (fun x hx => h x (by simp [ns_at, hx]))
  obtain ⟨P1, Ps, hlen, L1, hL, hP1m, hlink1, hlink⟩ := ns_chain (args := args) hpl hnZ x0 x1 x2 x5 cls Y0 r0 hcls hnames (fun x hx => h x (List.mem_append_left _ (List.mem_append_right _ hx)))
  have hfound : s.vm.findClass cls = some P1.m.cls := findClass_of_methodNamed hP1m
  cases Option.some.inj (hfoundX.symm.trans hfound)
  obtain ⟨c1, kX', hc1, hk, hord, -, -, hn6⟩ := Cond.instantiable_spec (a' (.instantiable cls 6) (by simp [ns_at]))
  cases Option.some.inj (hc1.symm.trans hfound)
  cases Option.some.inj (hkX.symm.trans hk)
  have hsel0 : selectMethod e.platform s.vm P1.m.cls T.fill0 = .method T.fill0 := by
    obtain ⟨c2, r2, m2, q1, q2, q3, q4, -⟩ := Cond.selects_spec (a' (.selects cls Bundle.tFill0 Bundle.tFill0) (by simp [ns_at]))
    cases Option.some.inj (q1.symm.trans hfound)
    cases Option.some.inj (q2.symm.trans (State.methodFound?_of_named Y.fill0 (by decide)))
    cases Option.some.inj (q3.symm.trans Y.fill0)
    rw [Launch.admits_selectMethod X.admits]; exact q4
  have hselF : selectMethod e.platform s.vm P1.m.cls T.fill = .method T.fill := by
    obtain ⟨c2, r2, m2, q1, q2, q3, q4, -⟩ := Cond.selects_spec (a' (.selects cls Bundle.tFill Bundle.tFill) (by simp [ns_at]))
    cases Option.some.inj (q1.symm.trans hfound)
    cases Option.some.inj (q2.symm.trans (State.methodFound?_of_named Y.fill (by decide)))
    cases Option.some.inj (q3.symm.trans Y.fill)
    rw [Launch.admits_selectMethod X.admits]; exact q4
  obtain ⟨cellS0, hcS0, hiss⟩ := Y.statics
  obtain ⟨u0, hu0⟩ := Cond.staticRefV Y.unassigned L.unassignedStatic L.statics hcS0 hiss (a' (.isRef (.static Bundle.tN "UNASSIGNED_STACK" Bundle.steD)) (by simp [ns_at]))
  obtain ⟨sen, hsen⟩ := Cond.staticRefV Y.sentinel L.sentinelStatic L.statics hcS0 hiss (a' (.isRef (.static Bundle.tN "SUPPRESSED_SENTINEL" Bundle.listD)) (by simp [ns_at]))
  obtain ⟨ci198, i198, fB, hk198, hg198, ha198, hsB, -, hnB, htB, hffB⟩ := Cond.ownField (t := .object "java/lang/Object") Y.found L.cls (by decide +kernel) (a' (.fieldLink Bundle.tN 198 Bundle.tN "backtrace" "Ljava/lang/Object;") (by simp [ns_at])) (a' (.lays Bundle.tN Bundle.tN "backtrace" "Ljava/lang/Object;") (by simp [ns_at])) e.platform hpl
  obtain ⟨cellS, hcS', heS, -, hkeep⟩ := X.same.2.2.2.2.2 T.aS cellS0 hcS0
  have hcellS : W.heap[T.aS]? = some cellS := hcS'
  have hout' : ∀ i, (⟨T.aS, i⟩ : Loc) ∉ locs := fun i hmem => by
    have := hlocs _ hmem cellS0 hcS0
    rw [hiss] at this; cases this
  have hknownS : cellS.vm ≠ .unknown := by
    rw [heS]; intro hu
    rw [show cellS0.vm = .unknown from hu] at hiss
    cases hiss
  have hneS : T.aS ≠ a := Nat.ne_of_lt (Nat.lt_of_lt_of_le (Array.getElem?_eq_some_iff.mp hcS0).1 hnew)
  obtain ⟨iM, hffM⟩ := Y.msg
  obtain ⟨tyC, dC, hdC, hdnC⟩ := Cond.laysAt hfound hk Y.cause (a' (.lays cls Bundle.tN "cause" "Ljava/lang/Throwable;") (by simp [ns_at]))
  obtain ⟨tyS, dS, hdS, hdnS⟩ := Cond.laysAt hfound hk Y.stack (a' (.lays cls Bundle.tN "stackTrace" Bundle.steD) (by simp [ns_at]))
  obtain ⟨tyP, dP, hdP, hdnP⟩ := Cond.laysAt hfound hk Y.supp (a' (.lays cls Bundle.tN "suppressedExceptions" Bundle.listD) (by simp [ns_at]))
  obtain ⟨tyM, dM, hdM, hdnM⟩ := Cond.laysAt hfound hk hffM (a' (.lays cls Bundle.tN "detailMessage" "Ljava/lang/String;") (by simp [ns_at]))
  obtain ⟨tyB, dB, hdB, hdnB⟩ := Cond.laysAt hfound hk hffB (a' (.lays cls Bundle.tN "backtrace" "Ljava/lang/Object;") (by simp [ns_at]))
  have bC := Cond.laysApart hdB hdC hdnB hdnC (by rw [hnB, Y.causeName]; decide)
  have bS := Cond.laysApart hdB hdS hdnB hdnS (by rw [hnB, Y.stackName]; decide)
  have bP := Cond.laysApart hdB hdP hdnB hdnP (by rw [hnB, Y.suppName]; decide)
  have hskip : SkipFacts T e.platform s (fun u => u) u0 ((preparedCellV T.toThrowableT (freshCell P1.m.cls kX) a u0 sen).withEntry W.cur) :=
    ⟨{ ci198 := ci198, i198 := i198, fBack := fB }, ⟨hk198, hg198, ha198, hsB⟩, by
      have := fresh_default (c := P1.m.cls) tyB
      rw [htB] at this
      simpa [preparedCellV, Cell.setSlot, Cell.withEntry, Array.getElem?_setIfInBounds, bC, bS, bP, bC.symm, bS.symm, bP.symm, defaultValue] using this, fun _ _ => rfl⟩
  obtain ⟨tm, methC, cdC, kC, vm₁, hnC, -, -, -, -, -, -, -, hW₁, st1⟩ := Steps.initColdS (tb := p.tables) (e := e) (below := below) (s := s) (U := W) X.here hexec X.warmed hpl hown (t := Bundle.initS cls) rfl rfl (Bundle.fit_spec hcls).2
    (a' (.methodLink own ic (Bundle.initS cls)) (by simp [ns_at])) (h (.instanceMethod (Bundle.initS cls)) (by simp [ns_at, Bundle.passSAtoms])) (bytes := rx0) (maxL := 2) (h (.code (Bundle.initS cls) rx0 2 none) (by simp [ns_at, Bundle.passSAtoms]))
    (f := g) hg (a := a) (msg := msg) (rest := .ref a :: rest) hstack hd6
  cases Option.some.inj (hnC.symm.trans hP1m)
  have X₁ := X.noted hW₁
  obtain ⟨vm₂, X₂, st2⟩ := X₁.ctorMessageOffV hexec (g := { g with stack := .ref a :: rest }) hg hsize T L Z LZ M LM (P1 :: Ps)
    (fun P hP => by rcases List.mem_cons.mp hP with rfl | hP; exact L1; exact hL P hP) ⟨hlink1, hlink⟩ (u0 := u0) (sen := sen) (self := a) hmsg (cell := freshCell P1.m.cls kX) (cellS := cellS)
    hcell (fun _ => by simp) (by simp) rfl rfl hsel0 hselF hcellS hneS hknownS (by rw [hkeep _ (hout' _)]; exact hu0) (by rw [hkeep _ (hout' _)]; exact hsen)
    (Takes.of_laid hk hord tyC (by rw [Y.causeType]; rfl)) (Takes.of_laid hk hord tyS (by rw [Y.stackType]; exact fits_refV_array _ u0)) (Takes.of_laid hk hord tyP (by rw [Y.suppType]; exact fits_refV_object _ sen))
    (Takes.of_laid hk hord tyM (by rw [Y.msgType]; exact fits_refV_object _ ⟨msg, hmsg⟩)) Y.objLocals hskip htr [] hd6
    (by simp only [List.length_cons, hlen]; omega) (by simp only [List.length_cons, hlen]; exact hRlocals)
  have hlt : a < ((W.setVm vm₁).setVm vm₂).heap.size := (Array.getElem?_eq_some_iff.mp hcell).1
  refine ⟨(W.setVm vm₁).setVm vm₂, _, _, X₂, fun y hy => ?_, hlt, rfl, rfl, fun target hwalk => st1 _ (fun acts => ?_)⟩
  · simp only [List.mem_cons, List.not_mem_nil, or_false] at hy
    rcases hy with rfl | rfl | rfl | rfl | rfl <;> rfl
  · rw [doInvoke_state]
    exact st2 _ hwalk
end NSA
section NSB
variable {p : Program} {l : Launch} {e : Env} {R : Room} {s : State} {m : MethodId} {args : Array Value} {below : List Frame} {meth : Method} {c : Code} {H : Heap} {locs : List Loc} {cells slots : Nat} {ls : Array Slot} {rest : List Value} {Q : State → Prop}
set_option maxHeartbeats 1000000 in
theorem ns_make {cc : ByteArray} {pc : Nat} (hexec : p.tables.exec = Jvm.exec) (hb : c.code = cc) (hl : l.stackTraces = false) {own cls text : String} {Y0 : String} {r0 : List String} {ik is ic sa ix0 : Nat} {rx0 : ByteArray} {A : Nat → Prop} (x0 : decode rx0 0 = .ok (.aload_n 0, 1)) (x1 : decode rx0 1 = .ok (.aload_n 1, 1)) (x2 : decode rx0 2 = .ok (.invokespecial ix0, 3)) (x5 : decode rx0 5 = .ok (.return_, 1))
    (hown : s.vm.findClass own = some m.cls) (hcls : Bundle.fit cls = true) (hnames : ∀ n ∈ Y0 :: r0, Bundle.fit n = true)
    (hk : (Cond.classLink own ik cls).before args s = true) (hini : (Cond.initialized cls).before args s = true) (hstr : vk_R own is text sa s) (hat : ∀ w ∈ (ns_at own ic cls Y0 r0 ix0 rx0).filter vx_no, w.before args s = true)
    (hgood : ∀ w ∈ Cond.classLink own ik cls :: Cond.initialized cls :: (ns_at own ic cls Y0 r0 ix0 rx0).filter vx_no, vx_ot w = true)
    (hU : vx_Zq Bundle.tN "UNASSIGNED_STACK" Bundle.steD A s s.heap) (hN : vx_Zq Bundle.tN "SUPPRESSED_SENTINEL" Bundle.listD A s s.heap) (hS : va_S A s.heap H locs) (hsize : ls.size = c.maxLocals)
    (d0 : decode cc pc = .ok (.new ik, 3)) (d3 : decode cc (pc + 3) = .ok (.dup, 1)) (d4 : decode cc (pc + 4) = .ok (.ldc is, 2)) (d6 : decode cc (pc + 6) = .ok (.invokespecial ic, 3))
    (hRframes : (Y0 :: r0).length + 3 < R.frames) (hRlocals : (rest.map fun v => v.category).sum + (13 * ((Y0 :: r0).length + 1) + 43) ≤ R.locals) (hRcells : cells + 1 ≤ R.cells) (hRslots : slots + 6 ≤ R.slots)
    (kk : ∀ (q : Nat) (ce : Cell) (H1 : Heap), H1[q]? = some ce → ce.vm = .none → s.vm.findClass cls = some ce.cls → H.size ≤ H1.size → (∀ q2 : Nat, q2 < H.size → H1[q2]? = H[q2]?) → W p l e R s m args below meth c H1 locs (cells + 1) (slots + 6) Q (F0 m (pc + 9) ls (.ref q :: rest))) :
    W p l e R s m args below meth c H locs cells slots Q (F0 m pc ls rest) := by
  intro T hT X
  subst hT
  have htr : e.platform.stackTraces = false := (show e.platform.stackTraces = l.stackTraces by rw [X.admits.platform]).trans hl
  have Y := vx_rebase X (R' := { frames := R.frames, locals := R.locals, cells := 1, slots := 6 }) (Nat.le_refl _) (Nat.le_refl _) hRcells hRslots
  obtain ⟨s', hA'⟩ : ∃ z, z = (T.setVm s.vm).setFrames (.invoking m args :: below) := ⟨_, rfl⟩
  rw [← hA'] at Y
  have hvm : s'.vm = s.vm := by rw [hA']; rfl
  have hhp : s'.heap = T.heap := by rw [hA']; rfl
  have hW0 : s.WarmedH s'.vm := by rw [hvm]; exact State.WarmedH.refl s
  have hat' : ∀ w ∈ (ns_at own ic cls Y0 r0 ix0 rx0).filter vx_no, w.before args s' = true := fun w hw => vx_ot_at hW0 hvm.symm (hgood w (List.mem_cons_of_mem _ (List.mem_cons_of_mem _ hw))) (hat w hw)
  have hk' : (Cond.classLink own ik cls).before args s' = true := vx_ot_at hW0 hvm.symm (hgood _ List.mem_cons_self) hk
  have hini' : (Cond.initialized cls).before args s' = true := vx_ot_at hW0 hvm.symm (hgood _ (List.mem_cons_of_mem _ List.mem_cons_self)) hini
  have hU' : vx_Zq Bundle.tN "UNASSIGNED_STACK" Bundle.steD A s' s'.heap := by rw [hhp]; exact vx_Zq.moved hW0.alike (hU.kept hS.2.1)
  have hN' : vx_Zq Bundle.tN "SUPPRESSED_SENTINEL" Bundle.listD A s' s'.heap := by rw [hhp]; exact vx_Zq.moved hW0.alike (hN.kept hS.2.1)
  have h : ∀ w ∈ ns_at own ic cls Y0 r0 ix0 rx0, w.before args s' = true := vx_own hat' (vx_isRefq hU'.1) (vx_isRefq hN'.1) hU'.2.word hN'.2.word
  have hown' : s'.vm.findClass own = some m.cls := by rw [hvm]; exact hown
  have hins : (Cond.instantiable cls 6).before args s' = true := h _ (by simp [ns_at])
  obtain ⟨vm₁, cX, kX, hfX, hkX, -, -, X₁, st1⟩ := Y.newCold hexec (own := own) (C := cls) (index := ik) (n := 6) hown' hk' hins hini'
    (g := F0 m pc ls rest) rfl (by rw [hb]; exact d0) (Nat.le_refl _) (Nat.le_refl _)
  generalize hT1 : (T.setVm vm₁).pushCell { cls := cX, slots := kX.instanceTypes.map defaultValue, vm := .none } = T1 at X₁ st1
  have hcat : (Value.ref T.heap.size).category = 1 := rfl
  have hcellA : T1.heap[T.heap.size]? = some (freshCell cX kX) := by rw [← hT1]; exact State.heap_pushCell_size _ _
  have d3' : decode c.code (pc + 3) = .ok (.dup, 1) := by rw [hb]; exact d3
  have d4' : decode c.code (pc + 4) = .ok (.ldc is, 2) := by rw [hb]; exact d4
  have hstr' : vk_R own is text sa s' := vk_R.warm hW0 hstr
  obtain ⟨V, ce, L, Z, hL, hlt, hcl9, hvm9, st⟩ := ns_made X₁ hexec htr (own := own) (cls := cls) (Y0 := Y0) (r0 := r0) (ic := ic) x0 x1 x2 x5 hown' hcls hnames h (fun x hx => nomatch hx) hfX hkX hcellA (by rw [hhp]; exact Nat.le_refl _) (msg := .ref sa) rfl
    (g := { method := m, pc := pc + 6, locals := ls, stack := .ref sa :: .ref T.heap.size :: .ref T.heap.size :: rest, locked := none }) rfl hsize (rest := rest) rfl
    (by rw [hb]; exact d6) hRframes (by simp only [List.map_cons, List.sum_cons, hcat]; omega)
  have Z0 := Stand.forget (locs := []) Z (fun y hy => by rw [hL y hy, hhp]; exact Nat.le_refl _)
  obtain ⟨f1, f2⟩ := vx_frame Z0.same
  rw [hhp] at f1 f2
  have hcid : s.vm.findClass cls = some ce.cls := by
    rw [hcl9]
    rw [hvm] at hfX
    exact hfX
  have hh : (V.setCell T.heap.size ce).heap[T.heap.size]? = some ce := heapAt_setCell_self (s := V) ce hlt
  subst hA'
  have X5 := vx_back9 X Y Z0
  have X6 : Stand p l e R s m args below meth c (V.setCell T.heap.size ce) locs (cells + 1) (slots + 6) := { X5 with same := X5.same.mono (by omega) (by omega) }
  obtain ⟨t, a1, b1⟩ := kk T.heap.size ce (V.setCell T.heap.size ce).heap hh hvm9 hcid f1 (fun q h1 => f2 q h1 (fun z hz => nomatch hz)) _ rfl X6
  refine ⟨t, st1 _ ?_, b1⟩
  show Steps p.tables e below (T1.setTop { method := m, pc := pc + 3, locals := ls, stack := .ref T.heap.size :: rest, locked := none }) _
  jvm_step X₁.here [X₁.here.top, hexec, d3', Value.category]
  exact X₁.ldcString hexec (own := own) (text := text) (index := is) (a := sa) hown' hstr'.1 hstr'.2
    (g := { method := m, pc := pc + 4, locals := ls, stack := .ref T.heap.size :: .ref T.heap.size :: rest, locked := none }) rfl d4' _ (st _ a1)
end NSB
theorem at_NSEE : ∀ w ∈ ((ns_at RX2 137 "java/util/NoSuchElementException" "java/lang/RuntimeException" ["java/lang/Exception"] 13 prog_24_method_4_code).filter vx_no).filter goodWord, w ∈ GW := gw_ps [18, 138, 147, 152, 155, 157, 139, 140, 38, 39, 141, 146, 153, 173, 128, 174, 130, 175, 132, 142, 144, 134, 169, 170, 172, 134, 523, 524, 525, 163, 163, 164, 165, 166, 166, 167, 168, 169, 522, 513, 515, 151, 516, 517, 518, 519, 137, 136, 520] (by decide +kernel) (by decide +kernel)
theorem ab_NSEE : ∀ w ∈ ((ns_at RX2 137 "java/util/NoSuchElementException" "java/lang/RuntimeException" ["java/lang/Exception"] 13 prog_24_method_4_code).filter vx_no).filter (fun w => !goodWord w), w ∈ xB := by decide +kernel
theorem ag_NSEE : ∀ w ∈ Cond.classLink RX2 133 "java/util/NoSuchElementException" :: Cond.initialized "java/util/NoSuchElementException" :: (ns_at RX2 137 "java/util/NoSuchElementException" "java/lang/RuntimeException" ["java/lang/Exception"] 13 prog_24_method_4_code).filter vx_no, vx_ot w = true := by decide +kernel
theorem ns_d0 : decode prog_24_method_4_code 0 = .ok (.aload_n 0, 1) := by decide +kernel
theorem ns_d1 : decode prog_24_method_4_code 1 = .ok (.aload_n 1, 1) := by decide +kernel
theorem ns_d2 : decode prog_24_method_4_code 2 = .ok (.invokespecial 13, 3) := by decide +kernel
theorem ns_d5 : decode prog_24_method_4_code 5 = .ok (.return_, 1) := by decide +kernel
section THROWS
variable {p : Program} {l : Launch} {e : Env} {R : Room} {s : State} {m : MethodId} {args : Array Value} {below : List Frame} {meth : Method} {c : Code}
variable {D : va_G} {cy : Nat → ClassId} {sa : Nat → Addr} {cc : ByteArray} {nL : Nat} {ret : Option FieldType} {A : Nat → Prop} {k n : Nat} {ws : va_W} {pc : Nat} {lc : List (Nat × Value)} {st : List Value}
variable {Po : Option Value → va_W → Prop} {Px : String → va_W → Prop} {mc ms : Nat}
theorem Ev.xB {U : State} {H : Heap} (h : Ev D cy sa A U H) {a : Array Value} : ∀ w ∈ xB, w.before a U = true := by
  intro w hw
  obtain ⟨-, -, -, -, h6, h7, -⟩ := h
  rcases List.mem_append.mp hw with h | h
  · obtain ⟨q, hq, rfl⟩ := List.mem_map.mp h
    exact va_Nw.use rfl (h6 q hq)
  · obtain ⟨q, hq, rfl⟩ := List.mem_map.mp h
    exact va_Nw.use rfl (h7 q hq)
theorem V.throwS {cls text : String} {ik is ic : Nat} (C : Cx D cy sa RX2 cc nL ret A p l s m args meth c) (hex : ∀ x ∈ c.exceptionTable.toList, False)
    (hf : Bundle.fit cls = true) (hk : Cond.classLink RX2 ik cls ∈ GW) (hini : Cond.initialized cls ∈ GW) (ha : ∀ w ∈ (vx_atS RX2 ic cls xNames).filter goodWord, w ∈ GW) (hb : ∀ w ∈ (vx_atS RX2 ic cls xNames).filter (fun w => !goodWord w), w ∈ xB)
    (hg : ∀ w ∈ Cond.classLink RX2 ik cls :: Cond.initialized cls :: vx_atS RX2 ic cls xNames, vx_ot w = true) (i : Nat) (hi : strL[i]? = some (is, text))
    (d0 : decode cc pc = .ok (.new ik, 3)) (d3 : decode cc (pc + 3) = .ok (.dup, 1)) (d4 : decode cc (pc + 4) = .ok (.ldc is, 2)) (d6 : decode cc (pc + 6) = .ok (.invokespecial ic, 3)) (d9 : decode cc (pc + 9) = .ok (.athrow, 1))
    (hRf : 5 < R.frames) (hRl : (st.map fun v => v.category).sum + 82 ≤ R.locals) (hc : k + 1 ≤ mc) (hs : n + 6 ≤ ms) (hR : mc ≤ R.cells ∧ ms ≤ R.slots) (h : Px cls ws) :
    V D nL A p l e R s m args below meth c (vx_MQ below (Qo D Po A) (Xo D Px A) args s mc ms A) k n ws pc lc st := by
  intro H locs ls hP hD hS hl
  have hE := C.ev
  refine vx_throwS (names := xNames) C.exec C.bytes C.trace C.ow hf (by decide +kernel) (C.hts _ hk) (C.hts _ hini) (hE.2.2.1 i _ hi) (vx_hat (fun w hw => C.hts w (ha w hw)) hb hE.xB) hg hE.2.1.1 hE.2.1.2 hS (hl.1.trans C.locals.symm) d0 d3 d4 d6 d9 (fun x hx => (hex x hx).elim) hRf hRl (Nat.le_trans hc hR.1) (Nat.le_trans hs hR.2) C.locks (fun t hvm hz hq => ⟨ws, h, hP.kept fun j x hj => hq x.1 (hP j x hj).lt, hD, ?_⟩) hS.2.2 hc hs
  exact ⟨Nat.le_trans hS.1 hz, fun q h1 h2 => (hq q (Nat.lt_of_lt_of_le h1 hS.1)).trans (hS.2.1 q h1 h2)⟩
theorem V.throw_IOOBE (C : Cx D cy sa RX2 cc nL ret A p l s m args meth c) (hex : ∀ x ∈ c.exceptionTable.toList, False) {is : Nat} {text : String} (i : Nat) (hi : strL[i]? = some (is, text))
    (d0 : decode cc pc = .ok (.new 184, 3)) (d3 : decode cc (pc + 3) = .ok (.dup, 1)) (d4 : decode cc (pc + 4) = .ok (.ldc is, 2)) (d6 : decode cc (pc + 6) = .ok (.invokespecial 188, 3)) (d9 : decode cc (pc + 9) = .ok (.athrow, 1))
    (hRf : 5 < R.frames) (hRl : (st.map fun v => v.category).sum + 82 ≤ R.locals) (hc : k + 1 ≤ mc) (hs : n + 6 ≤ ms) (hR : mc ≤ R.cells ∧ ms ≤ R.slots) (h : Px "java/lang/IndexOutOfBoundsException" ws) :
    V D nL A p l e R s m args below meth c (vx_MQ below (Qo D Po A) (Xo D Px A) args s mc ms A) k n ws pc lc st :=
  V.throwS C hex (by decide +kernel) cl_X2_184 in_IndexOutOfBoundsException at_IOOBE ab_IOOBE ag_IOOBE i hi d0 d3 d4 d6 d9 hRf hRl hc hs hR h
theorem V.throw_IAE (C : Cx D cy sa RX2 cc nL ret A p l s m args meth c) (hex : ∀ x ∈ c.exceptionTable.toList, False) {is : Nat} {text : String} (i : Nat) (hi : strL[i]? = some (is, text))
    (d0 : decode cc pc = .ok (.new 189, 3)) (d3 : decode cc (pc + 3) = .ok (.dup, 1)) (d4 : decode cc (pc + 4) = .ok (.ldc is, 2)) (d6 : decode cc (pc + 6) = .ok (.invokespecial 193, 3)) (d9 : decode cc (pc + 9) = .ok (.athrow, 1))
    (hRf : 5 < R.frames) (hRl : (st.map fun v => v.category).sum + 82 ≤ R.locals) (hc : k + 1 ≤ mc) (hs : n + 6 ≤ ms) (hR : mc ≤ R.cells ∧ ms ≤ R.slots) (h : Px "java/lang/IllegalArgumentException" ws) :
    V D nL A p l e R s m args below meth c (vx_MQ below (Qo D Po A) (Xo D Px A) args s mc ms A) k n ws pc lc st :=
  V.throwS C hex (by decide +kernel) cl_X2_189 in_IllegalArgumentException at_IAE ab_IAE ag_IAE i hi d0 d3 d4 d6 d9 hRf hRl hc hs hR h
theorem V.throw_ISE (C : Cx D cy sa RX2 cc nL ret A p l s m args meth c) (hex : ∀ x ∈ c.exceptionTable.toList, False) {is : Nat} {text : String} (i : Nat) (hi : strL[i]? = some (is, text))
    (d0 : decode cc pc = .ok (.new 64, 3)) (d3 : decode cc (pc + 3) = .ok (.dup, 1)) (d4 : decode cc (pc + 4) = .ok (.ldc is, 2)) (d6 : decode cc (pc + 6) = .ok (.invokespecial 68, 3)) (d9 : decode cc (pc + 9) = .ok (.athrow, 1))
    (hRf : 5 < R.frames) (hRl : (st.map fun v => v.category).sum + 82 ≤ R.locals) (hc : k + 1 ≤ mc) (hs : n + 6 ≤ ms) (hR : mc ≤ R.cells ∧ ms ≤ R.slots) (h : Px "java/lang/IllegalStateException" ws) :
    V D nL A p l e R s m args below meth c (vx_MQ below (Qo D Po A) (Xo D Px A) args s mc ms A) k n ws pc lc st :=
  V.throwS C hex (by decide +kernel) cl_X2_64 in_IllegalStateException at_ISE ab_ISE ag_ISE i hi d0 d3 d4 d6 d9 hRf hRl hc hs hR h
theorem V.throw_NSEE (C : Cx D cy sa RX2 cc nL ret A p l s m args meth c) (hex : ∀ x ∈ c.exceptionTable.toList, False) {is : Nat} {text : String} (i : Nat) (hi : strL[i]? = some (is, text))
    (d0 : decode cc pc = .ok (.new 133, 3)) (d3 : decode cc (pc + 3) = .ok (.dup, 1)) (d4 : decode cc (pc + 4) = .ok (.ldc is, 2)) (d6 : decode cc (pc + 6) = .ok (.invokespecial 137, 3)) (d9 : decode cc (pc + 9) = .ok (.athrow, 1))
    (hRf : 5 < R.frames) (hRl : (st.map fun v => v.category).sum + 82 ≤ R.locals) (hc : k + 1 ≤ mc) (hs : n + 6 ≤ ms) (hR : mc ≤ R.cells ∧ ms ≤ R.slots) (h : Px "java/util/NoSuchElementException" ws) :
    V D nL A p l e R s m args below meth c (vx_MQ below (Qo D Po A) (Xo D Px A) args s mc ms A) k n ws pc lc st := by
  intro H locs ls hP hD hS hl
  have hE := C.ev
  refine ns_make (Y0 := "java/lang/RuntimeException") (r0 := ["java/lang/Exception"]) C.exec C.bytes C.trace ns_d0 ns_d1 ns_d2 ns_d5 C.ow (by decide +kernel) (by decide +kernel) (C.hts _ cl_X2_133) (C.hts _ in_NoSuchElementException) (hE.2.2.1 i _ hi) (vx_hat (fun w hw => C.hts w (at_NSEE w hw)) ab_NSEE hE.xB) ag_NSEE hE.2.1.1 hE.2.1.2 hS (hl.1.trans C.locals.symm) d0 d3 d4 d6 hRf hRl (Nat.le_trans hc hR.1) (Nat.le_trans hs hR.2) (fun q ce H1 g1 g2 g3 g4 g5 => ?_)
  refine vx_athrow C.exec C.bytes d9 (vx_out (fun x hx => (hex x hx).elim) C.locks g1 g2 g3 (fun t ht hvm => ⟨ws, h, ?_, hD, ?_⟩) hS.2.2 hc hs)
  · rw [ht]
    exact hP.kept fun j x hj => g5 x.1 (hP j x hj).lt
  · exact ⟨by rw [ht]; exact Nat.le_trans hS.1 g4, fun q2 h1 h2 => by rw [ht]; exact (g5 q2 (Nat.lt_of_lt_of_le h1 hS.1)).trans (hS.2.1 q2 h1 h2)⟩
end THROWS
