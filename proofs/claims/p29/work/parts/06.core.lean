/-! CORE: ints as integers; what stays of the environment; V: the machine at a place, over any heap that holds the world's cells -/
def zI (a : Int) : Int32 := Int32.ofInt a
abbrev vi (a : Int) : Value := .int (zI a)
def inR (a : Int) : Prop := -2147483648 ≤ a ∧ a < 2147483648
def bI (b : Bool) : Int := if b then 1 else 0
theorem zI_add (a b : Int) : zI a + zI b = zI (a + b) := (Int32.ofInt_add a b).symm
theorem zI_sub (a b : Int) : zI a - zI b = zI (a - b) := (Int32.ofInt_sub a b).symm
theorem zI_mul (a b : Int) : zI a * zI b = zI (a * b) := (Int32.ofInt_mul a b).symm
theorem zI_of (x : Int32) : zI x.toInt = x := Int32.ofInt_toInt x
theorem zI_inR (x : Int32) : inR x.toInt := ⟨by have := x.le_toInt; omega, by have := x.toInt_lt; omega⟩
theorem zI_toInt {a : Int} (h : inR a) : (zI a).toInt = a := Int32.toInt_ofInt_of_le (by have := h.1; omega) (by have := h.2; omega)
theorem zI_nat (k : Nat) : zI (k : Int) = nI k := Int32.ofInt_eq_ofNat
theorem zI_lt {a b : Int} (ha : inR a) (hb : inR b) : zI a < zI b ↔ a < b := by rw [Int32.lt_iff_toInt_lt, zI_toInt ha, zI_toInt hb]
theorem zI_le {a b : Int} (ha : inR a) (hb : inR b) : zI a ≤ zI b ↔ a ≤ b := by rw [Int32.le_iff_toInt_le, zI_toInt ha, zI_toInt hb]
theorem zI_eq {a b : Int} (ha : inR a) (hb : inR b) : zI a = zI b ↔ a = b := by rw [← Int32.toInt_inj, zI_toInt ha, zI_toInt hb]
theorem zI_0 : zI 0 = 0 := rfl
theorem inR_0 : inR 0 := ⟨by decide, by decide⟩
theorem zI_clamp {a : Int} (h : inR a) : (zI a).toNatClampNeg = a.toNat := by rw [Int32.toNatClampNeg, zI_toInt h]
theorem zI_in {a : Int} {N : Nat} (h : 0 ≤ a) (h2 : a < (N : Int)) (hN : N ≤ 65536) : vp_in (zI a) N := by
  have hr : inR a := ⟨by omega, by omega⟩
  refine vp_in_iff.mpr ⟨?_, ?_⟩ <;> rw [zI_toInt hr] <;> assumption
theorem zI_ne0 {a : Int} (h : inR a) (h0 : a ≠ 0) : ¬ zI a = 0 := fun z => h0 ((zI_eq h inR_0).mp z)
theorem zI_div {a b : Int} (ha : inR a) (ha0 : 0 ≤ a) (hb : inR b) (hb0 : 0 < b) : zI a / zI b = zI (a / b) := by
  apply Int32.toInt_inj.mp
  have hne : zI b ≠ -1 := fun z => by
    have h1 := congrArg Int32.toInt z
    rw [zI_toInt hb] at h1
    rw [h1] at hb0
    exact absurd hb0 (by decide)
  rw [Int32.toInt_div_of_ne_right _ _ hne, zI_toInt ha, zI_toInt hb, Int.tdiv_eq_ediv_of_nonneg ha0]
  have h1 : 0 ≤ a / b := Int.ediv_nonneg ha0 (Int.le_of_lt hb0)
  have h2 : a / b ≤ a := Int.ediv_le_self b ha0
  exact (zI_toInt ⟨by omega, by have := ha.2; omega⟩).symm
theorem zI_rem {a b : Int} (ha : inR a) (ha0 : 0 ≤ a) (hb : inR b) (hb0 : 0 < b) : zI a - zI a / zI b * zI b = zI (a % b) := by
  rw [zI_div ha ha0 hb hb0, zI_mul, zI_sub]
  have h := Int.emod_def a b
  rw [h, Int.mul_comm b]
theorem bI_01 (b : Bool) : bI b = 0 ∨ bI b = 1 := by cases b <;> simp [bI]
theorem bI_0 {b : Bool} : bI b = 0 ↔ b = false := by cases b <;> simp [bI]
theorem bI_1 {b : Bool} : bI b = 1 ↔ b = true := by cases b <;> simp [bI]
theorem inR_bI (b : Bool) : inR (bI b) := by cases b <;> exact ⟨by decide, by decide⟩

/-- the arrays' classes -/
def tyL (cy : Nat → ClassId) : List (ClassId × FieldType) := [(cy 0, .int), (cy 1, .boolean), (cy 2, .object "java/lang/Object")]
def strL : List (Nat × String) := [(186, "there is no such day"), (186, "there is no such day"), (196, "an argument is out of range"), (66, "today would be above the last day"), (77, "there are as many rules as there can be"), (198, "there is no such rule"), (96, "a rule would require itself"), (194, "places are counted from 0"), (135, "the rule has no open duty"), (145, "the open duty is blocked"), (172, "no duty of the rule was ever finished")]
def xNest : List (String × Nat) := [(RX0, 26), (RX1, 59)]
def xDecl : List String := ["java/lang/RuntimeException", "java/lang/Exception", "java/lang/Throwable"]
def xIO : String := "java/lang/IndexOutOfBoundsException"
def xIA : String := "java/lang/IllegalArgumentException"
def xIS : String := "java/lang/IllegalStateException"
def xNS : String := "java/util/NoSuchElementException"
def xCast : List (String × String) := [(xIO, xIO), (xIA, xIA), (xIS, xIS), (xNS, xNS), (RX1, "java/lang/Object")]
/-- the law's script: an old row of ints, at sa 101, that no method writes -/
def Scr (sa : Nat → Addr) (A : Nat → Prop) (U : State) (H : Heap) : Prop := ∃ (L : Nat) (xs : Nat → Int32), L ≤ 260 ∧ va_X (sa 101) L xs U H ∧ ¬ A (sa 101)
/-- what of the launch is the same in every method: classes, statics that are only read, texts, words that no method's list holds -/
def Ev (D : va_G) (cy : Nat → ClassId) (sa : Nat → Addr) (A : Nat → Prop) (U : State) (H : Heap) : Prop :=
  va_K D vwCl (tyL cy) U ∧
  (vx_Zq Bundle.tN "UNASSIGNED_STACK" Bundle.steD A U H ∧ vx_Zq Bundle.tN "SUPPRESSED_SENTINEL" Bundle.listD A U H) ∧
  (∀ (i : Nat) (q : Nat × String), strL[i]? = some q → vk_R RX2 q.1 q.2 (sa i) U) ∧
  (∀ q ∈ xNest, va_Nw (.methodLinkNest q.1 q.2 yX2_isDay RX2) U) ∧
  (∀ q ∈ xDecl, va_Nw (.declares (Bundle.initS q)) U) ∧
  (∀ q ∈ xCast, va_Nw (.castable q.1 q.2) U) ∧
  (va_Z RJx4a65c "DEFAULTCAPACITY_EMPTY_ELEMENTDATA" "[Ljava/lang/Object;" (.ref (sa 100)) A U H ∧ va_T (.object "java/lang/Object") (sa 100) 0 (fun _ => .null) A U H ∧ va_AO "java/lang/Object" U ∧ Scr sa A U H)
theorem Scr.moved {sa : Nat → Addr} {A : Nat → Prop} {u U : State} {H : Heap} (hvm : u.vm.Alike U.vm) (h : Scr sa A u H) : Scr sa A U H := by
  obtain ⟨L, xs, h0, h1, h2⟩ := h
  exact ⟨L, xs, h0, h1.moved hvm, h2⟩
theorem Scr.kept {sa : Nat → Addr} {A : Nat → Prop} {U : State} {H H1 : Heap} (hq : ∀ a : Nat, a < H.size → ¬ A a → H1[a]? = H[a]?) (h : Scr sa A U H) : Scr sa A U H1 := by
  obtain ⟨L, xs, h0, h1, h2⟩ := h
  refine ⟨L, xs, h0, h1.kept (hq _ ?_ h2), h2⟩
  obtain ⟨c, hc, -⟩ := h1
  exact (Array.getElem?_eq_some_iff.mp hc).1
theorem Scr.narrow {sa : Nat → Addr} {A B : Nat → Prop} {U : State} {H : Heap} (hAB : ∀ q, B q → A q) (h : Scr sa A U H) : Scr sa B U H := by
  obtain ⟨L, xs, h0, h1, h2⟩ := h
  exact ⟨L, xs, h0, h1, fun hb => h2 (hAB _ hb)⟩
theorem Ev.warm {D : va_G} {cy : Nat → ClassId} {sa : Nat → Addr} {A : Nat → Prop} {s U : State} {H : Heap} (hW : s.WarmedH U.vm) (h : Ev D cy sa A s H) : Ev D cy sa A U H := by
  obtain ⟨h1, ⟨h2, h3⟩, h4, h5, h6, h7, h8, h9, h10, h11⟩ := h
  have ha := hW.alike
  refine ⟨h1.moved ha, ⟨h2.moved ha, h3.moved ha⟩, fun i q hq => (h4 i q hq).warm hW, fun q hq => (h5 q hq).warmM hW, fun q hq => ?_, fun q hq => ?_, h8.moved ha, h9.moved ha, h10.moved ha, h11.moved ha⟩
  · have h := h6 q hq
    have e := Cond.declares_setVm (args := #[]) (s := s) ha (Bundle.initS q)
    exact va_tabs rfl (rfl : (s.setVm U.vm).vm = U.vm) (e.trans h)
  · have h := h7 q hq
    have e := Cond.castable_setVm (args := #[]) (s := s) ha q.1 q.2
    exact va_tabs rfl (rfl : (s.setVm U.vm).vm = U.vm) (e.trans h)
theorem Ev.same {D : va_G} {cy : Nat → ClassId} {sa : Nat → Addr} {A : Nat → Prop} {s U : State} {H : Heap} (hv : U.vm = s.vm) (h : Ev D cy sa A s H) : Ev D cy sa A U H := by
  obtain ⟨h1, ⟨h2, h3⟩, h4, h5, h6, h7, h8, h9, h10, h11⟩ := h
  have ha : s.vm.Alike U.vm := by rw [hv]; exact Vm.Alike.refl _
  exact ⟨h1.moved ha, ⟨h2.moved ha, h3.moved ha⟩, fun i q hq => (h4 i q hq).same hv, fun q hq => (h5 q hq).same rfl hv.symm, fun q hq => (h6 q hq).same rfl hv.symm, fun q hq => (h7 q hq).same rfl hv.symm, h8.moved ha, h9.moved ha, h10.moved ha, h11.moved ha⟩
theorem Ev.kept {D : va_G} {cy : Nat → ClassId} {sa : Nat → Addr} {A : Nat → Prop} {U : State} {H H1 : Heap} (hq : ∀ a : Nat, a < H.size → ¬ A a → H1[a]? = H[a]?) (h : Ev D cy sa A U H) : Ev D cy sa A U H1 := by
  obtain ⟨h1, ⟨h2, h3⟩, h4, h5, h6, h7, h8, h9, h10, h11⟩ := h
  exact ⟨h1, ⟨h2.kept hq, h3.kept hq⟩, h4, h5, h6, h7, h8.kept hq, h9.kept hq, h10, h11.kept hq⟩
theorem Ev.narrow {D : va_G} {cy : Nat → ClassId} {sa : Nat → Addr} {A B : Nat → Prop} {U : State} {H : Heap} (hAB : ∀ q, B q → A q) (h : Ev D cy sa A U H) : Ev D cy sa B U H := by
  obtain ⟨h1, ⟨h2, h3⟩, h4, h5, h6, h7, h8, h9, h10, h11⟩ := h
  exact ⟨h1, ⟨h2.narrow hAB, h3.narrow hAB⟩, h4, h5, h6, h7, h8.narrow hAB, h9.narrow hAB, h10, h11.narrow hAB⟩

/-- what is fixed in a method's walk -/
def Cx (D : va_G) (cy : Nat → ClassId) (sa : Nat → Addr) (own : String) (cc : ByteArray) (nL : Nat) (ret : Option FieldType) (A : Nat → Prop) (p : Program) (l : Launch) (s : State) (m : MethodId) (args : Array Value) (meth : Method) (c : Code) : Prop :=
  p.tables.exec = Jvm.exec ∧ c.code = cc ∧ c.maxLocals = nL ∧ s.vm.findClass own = some m.cls ∧ (∀ w ∈ GW, w.before args s = true) ∧ Ev D cy sa A s s.heap ∧ (∀ q : Nat, s.heap.size ≤ q → A q) ∧ meth.locks = false ∧ meth.sig.returnType = ret ∧ l.stackTraces = false
/-- the machine at pc, with the locals lc and the stack st, over every heap that holds the world ws: it comes to Q -/
def V (D : va_G) (nL : Nat) (A : Nat → Prop) (p : Program) (l : Launch) (e : Env) (R : Room) (s : State) (m : MethodId) (args : Array Value) (below : List Frame) (meth : Method) (c : Code) (Q : State → Prop) (k n : Nat) (ws : va_W) (pc : Nat) (lc : List (Nat × Value)) (st : List Value) : Prop :=
  ∀ (H : Heap) (locs : List Loc) (ls : Array Slot), va_P D vwCl ws H → va_D A ws → va_S A s.heap H locs → lv_has ls nL lc → W p l e R s m args below meth c H locs k n Q (F0 m pc ls st)
/-- the same, where E has been thrown there -/
def VX (D : va_G) (nL : Nat) (A : Nat → Prop) (p : Program) (l : Launch) (e : Env) (R : Room) (s : State) (m : MethodId) (args : Array Value) (below : List Frame) (meth : Method) (c : Code) (Q : State → Prop) (k n : Nat) (ws : va_W) (pc : Nat) (lc : List (Nat × Value)) (st : List Value) (E : String) : Prop :=
  ∀ (H : Heap) (locs : List Loc) (ls : Array Slot) (q : Addr) (ce : Cell), va_P D vwCl ws H → va_D A ws → va_S A s.heap H locs → lv_has ls nL lc → H[q]? = some ce → ce.vm = .none → s.vm.findClass E = some ce.cls → vx_W p l e R s m args below meth c H locs k n Q (F0 m pc ls st) q
