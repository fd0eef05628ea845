section
-- ===== PART A: goes FIRST, ahead of the names: the tables' words, and 'selects' of the private methods out of them =====
/-- a private method of a class that the tables say can be made, by its rows of tables_1 -/
def lw_okq (q : MethodName × Nat) : Prop := (q.1.cls ≠ "java/lang/invoke/MethodHandle" ∧ q.1.cls ≠ "java/lang/invoke/VarHandle") ∧ Cond.instantiable q.1.cls q.2 ∈ tables_1 ∧ Cond.privateMethod q.1 ∈ tables_1 ∧ Cond.instanceMethod q.1 ∈ tables_1
theorem lw_p0 : lw_okq (⟨"Obligary$Calendar", "numberMonthOf", "(I)V"⟩, 3) := ⟨⟨by decide +kernel, by decide +kernel⟩, List.mem_of_getElem? (i := 30) (by decide +kernel), List.mem_of_getElem? (i := 36) (by decide +kernel), List.mem_of_getElem? (i := 37) (by decide +kernel)⟩
theorem lw_p1 : lw_okq (⟨"java/lang/Throwable", "fillInStackTrace", "(I)Ljava/lang/Throwable;"⟩, 6) := ⟨⟨by decide +kernel, by decide +kernel⟩, List.mem_of_getElem? (i := 192) (by decide +kernel), List.mem_of_getElem? (i := 190) (by decide +kernel), List.mem_of_getElem? (i := 191) (by decide +kernel)⟩
theorem lw_p2 : lw_okq (⟨"Obligary$Rule", "isNominal", "(ILObligary$Calendar;)Z"⟩, 12) := ⟨⟨by decide +kernel, by decide +kernel⟩, List.mem_of_getElem? (i := 233) (by decide +kernel), List.mem_of_getElem? (i := 231) (by decide +kernel), List.mem_of_getElem? (i := 232) (by decide +kernel)⟩
theorem lw_p3 : lw_okq (⟨"java/util/ArrayList", "add", "(Ljava/lang/Object;[Ljava/lang/Object;I)V"⟩, 3) := ⟨⟨by decide +kernel, by decide +kernel⟩, List.mem_of_getElem? (i := 59) (by decide +kernel), List.mem_of_getElem? (i := 373) (by decide +kernel), List.mem_of_getElem? (i := 374) (by decide +kernel)⟩
theorem lw_p4 : lw_okq (⟨"java/util/ArrayList", "grow", "()[Ljava/lang/Object;"⟩, 3) := ⟨⟨by decide +kernel, by decide +kernel⟩, List.mem_of_getElem? (i := 59) (by decide +kernel), List.mem_of_getElem? (i := 377) (by decide +kernel), List.mem_of_getElem? (i := 378) (by decide +kernel)⟩
theorem lw_p5 : lw_okq (⟨"java/util/ArrayList", "grow", "(I)[Ljava/lang/Object;"⟩, 3) := ⟨⟨by decide +kernel, by decide +kernel⟩, List.mem_of_getElem? (i := 59) (by decide +kernel), List.mem_of_getElem? (i := 381) (by decide +kernel), List.mem_of_getElem? (i := 382) (by decide +kernel)⟩
theorem lw_p6 : lw_okq (⟨"Obligary", "ruleAt", "(I)LObligary$Rule;"⟩, 4) := ⟨⟨by decide +kernel, by decide +kernel⟩, List.mem_of_getElem? (i := 22) (by decide +kernel), List.mem_of_getElem? (i := 430) (by decide +kernel), List.mem_of_getElem? (i := 431) (by decide +kernel)⟩
theorem lw_p7 : lw_okq (⟨"Obligary", "spreadNeeds", "(II)V"⟩, 4) := ⟨⟨by decide +kernel, by decide +kernel⟩, List.mem_of_getElem? (i := 22) (by decide +kernel), List.mem_of_getElem? (i := 451) (by decide +kernel), List.mem_of_getElem? (i := 452) (by decide +kernel)⟩
theorem lw_p8 : lw_okq (⟨"Obligary$Rule", "isMovedTo", "(ILObligary$Calendar;)Z"⟩, 12) := ⟨⟨by decide +kernel, by decide +kernel⟩, List.mem_of_getElem? (i := 233) (by decide +kernel), List.mem_of_getElem? (i := 499) (by decide +kernel), List.mem_of_getElem? (i := 500) (by decide +kernel)⟩
theorem lw_p9 : lw_okq (⟨"Obligary", "foreseeOpenDuties", "()V"⟩, 4) := ⟨⟨by decide +kernel, by decide +kernel⟩, List.mem_of_getElem? (i := 22) (by decide +kernel), List.mem_of_getElem? (i := 540) (by decide +kernel), List.mem_of_getElem? (i := 541) (by decide +kernel)⟩
theorem lw_p10 : lw_okq (⟨"Obligary", "leastBlocker", "(LObligary$Rule;)I"⟩, 4) := ⟨⟨by decide +kernel, by decide +kernel⟩, List.mem_of_getElem? (i := 22) (by decide +kernel), List.mem_of_getElem? (i := 544) (by decide +kernel), List.mem_of_getElem? (i := 545) (by decide +kernel)⟩
theorem lw_p11 : lw_okq (⟨"Obligary", "nextInOrder", "(I)I"⟩, 4) := ⟨⟨by decide +kernel, by decide +kernel⟩, List.mem_of_getElem? (i := 22) (by decide +kernel), List.mem_of_getElem? (i := 577) (by decide +kernel), List.mem_of_getElem? (i := 578) (by decide +kernel)⟩
theorem lw_p12 : lw_okq (⟨"Obligary", "effortsDueOn", "(I)I"⟩, 4) := ⟨⟨by decide +kernel, by decide +kernel⟩, List.mem_of_getElem? (i := 22) (by decide +kernel), List.mem_of_getElem? (i := 611) (by decide +kernel), List.mem_of_getElem? (i := 612) (by decide +kernel)⟩
theorem lw_p13 : lw_okq (⟨"Obligary", "layEfforts", "(III)I"⟩, 4) := ⟨⟨by decide +kernel, by decide +kernel⟩, List.mem_of_getElem? (i := 22) (by decide +kernel), List.mem_of_getElem? (i := 629) (by decide +kernel), List.mem_of_getElem? (i := 630) (by decide +kernel)⟩
theorem lw_p14 : lw_okq (⟨"Obligary", "layEffort", "(IIII)Z"⟩, 4) := ⟨⟨by decide +kernel, by decide +kernel⟩, List.mem_of_getElem? (i := 22) (by decide +kernel), List.mem_of_getElem? (i := 636) (by decide +kernel), List.mem_of_getElem? (i := 637) (by decide +kernel)⟩
theorem lw_p15 : lw_okq (⟨"ObligaryModel", "works", "(I)Z"⟩, 19) := ⟨⟨by decide +kernel, by decide +kernel⟩, List.mem_of_getElem? (i := 647) (by decide +kernel), List.mem_of_getElem? (i := 729) (by decide +kernel), List.mem_of_getElem? (i := 730) (by decide +kernel)⟩
def lw_privs_1 : List (MethodName × Nat) := [(⟨"Obligary$Calendar", "numberMonthOf", "(I)V"⟩, 3), (⟨"java/lang/Throwable", "fillInStackTrace", "(I)Ljava/lang/Throwable;"⟩, 6), (⟨"Obligary$Rule", "isNominal", "(ILObligary$Calendar;)Z"⟩, 12), (⟨"java/util/ArrayList", "add", "(Ljava/lang/Object;[Ljava/lang/Object;I)V"⟩, 3), (⟨"java/util/ArrayList", "grow", "()[Ljava/lang/Object;"⟩, 3), (⟨"java/util/ArrayList", "grow", "(I)[Ljava/lang/Object;"⟩, 3), (⟨"Obligary", "ruleAt", "(I)LObligary$Rule;"⟩, 4), (⟨"Obligary", "spreadNeeds", "(II)V"⟩, 4), (⟨"Obligary$Rule", "isMovedTo", "(ILObligary$Calendar;)Z"⟩, 12), (⟨"Obligary", "foreseeOpenDuties", "()V"⟩, 4), (⟨"Obligary", "leastBlocker", "(LObligary$Rule;)I"⟩, 4), (⟨"Obligary", "nextInOrder", "(I)I"⟩, 4), (⟨"Obligary", "effortsDueOn", "(I)I"⟩, 4), (⟨"Obligary", "layEfforts", "(III)I"⟩, 4), (⟨"Obligary", "layEffort", "(IIII)Z"⟩, 4), (⟨"ObligaryModel", "works", "(I)Z"⟩, 19)]
theorem lw_r1 : ∀ q ∈ lw_privs_1, lw_okq q := List.forall_mem_cons.mpr ⟨lw_p0, List.forall_mem_cons.mpr ⟨lw_p1, List.forall_mem_cons.mpr ⟨lw_p2, List.forall_mem_cons.mpr ⟨lw_p3, List.forall_mem_cons.mpr ⟨lw_p4, List.forall_mem_cons.mpr ⟨lw_p5, List.forall_mem_cons.mpr ⟨lw_p6, List.forall_mem_cons.mpr ⟨lw_p7, List.forall_mem_cons.mpr ⟨lw_p8, List.forall_mem_cons.mpr ⟨lw_p9, List.forall_mem_cons.mpr ⟨lw_p10, List.forall_mem_cons.mpr ⟨lw_p11, List.forall_mem_cons.mpr ⟨lw_p12, List.forall_mem_cons.mpr ⟨lw_p13, List.forall_mem_cons.mpr ⟨lw_p14, List.forall_mem_cons.mpr ⟨lw_p15, fun _ h => absurd h List.not_mem_nil⟩⟩⟩⟩⟩⟩⟩⟩⟩⟩⟩⟩⟩⟩⟩⟩
theorem lw_p16 : lw_okq (⟨"ObligaryModel", "workingFrom", "(II)I"⟩, 19) := ⟨⟨by decide +kernel, by decide +kernel⟩, List.mem_of_getElem? (i := 647) (by decide +kernel), List.mem_of_getElem? (i := 740) (by decide +kernel), List.mem_of_getElem? (i := 741) (by decide +kernel)⟩
theorem lw_p17 : lw_okq (⟨"ObligaryModel", "isRule", "(I)Z"⟩, 19) := ⟨⟨by decide +kernel, by decide +kernel⟩, List.mem_of_getElem? (i := 647) (by decide +kernel), List.mem_of_getElem? (i := 760) (by decide +kernel), List.mem_of_getElem? (i := 761) (by decide +kernel)⟩
theorem lw_p18 : lw_okq (⟨"ObligaryModel", "reaches", "(II)Z"⟩, 19) := ⟨⟨by decide +kernel, by decide +kernel⟩, List.mem_of_getElem? (i := 647) (by decide +kernel), List.mem_of_getElem? (i := 768) (by decide +kernel), List.mem_of_getElem? (i := 769) (by decide +kernel)⟩
theorem lw_p19 : lw_okq (⟨"ObligaryModel", "marks", "()V"⟩, 19) := ⟨⟨by decide +kernel, by decide +kernel⟩, List.mem_of_getElem? (i := 647) (by decide +kernel), List.mem_of_getElem? (i := 780) (by decide +kernel), List.mem_of_getElem? (i := 781) (by decide +kernel)⟩
theorem lw_p20 : lw_okq (⟨"ObligaryModel", "isNominal", "(II)Z"⟩, 19) := ⟨⟨by decide +kernel, by decide +kernel⟩, List.mem_of_getElem? (i := 647) (by decide +kernel), List.mem_of_getElem? (i := 784) (by decide +kernel), List.mem_of_getElem? (i := 785) (by decide +kernel)⟩
theorem lw_p21 : lw_okq (⟨"ObligaryModel", "moved", "(II)I"⟩, 19) := ⟨⟨by decide +kernel, by decide +kernel⟩, List.mem_of_getElem? (i := 647) (by decide +kernel), List.mem_of_getElem? (i := 788) (by decide +kernel), List.mem_of_getElem? (i := 789) (by decide +kernel)⟩
theorem lw_p22 : lw_okq (⟨"ObligaryModel", "dueAt", "(II)I"⟩, 19) := ⟨⟨by decide +kernel, by decide +kernel⟩, List.mem_of_getElem? (i := 647) (by decide +kernel), List.mem_of_getElem? (i := 792) (by decide +kernel), List.mem_of_getElem? (i := 793) (by decide +kernel)⟩
theorem lw_p23 : lw_okq (⟨"ObligaryModel", "countBefore", "(II)I"⟩, 19) := ⟨⟨by decide +kernel, by decide +kernel⟩, List.mem_of_getElem? (i := 647) (by decide +kernel), List.mem_of_getElem? (i := 800) (by decide +kernel), List.mem_of_getElem? (i := 801) (by decide +kernel)⟩
theorem lw_p24 : lw_okq (⟨"ObligaryModel", "firstFrom", "(II)I"⟩, 19) := ⟨⟨by decide +kernel, by decide +kernel⟩, List.mem_of_getElem? (i := 647) (by decide +kernel), List.mem_of_getElem? (i := 808) (by decide +kernel), List.mem_of_getElem? (i := 809) (by decide +kernel)⟩
theorem lw_p25 : lw_okq (⟨"ObligaryModel", "blocks", "([II)I"⟩, 19) := ⟨⟨by decide +kernel, by decide +kernel⟩, List.mem_of_getElem? (i := 647) (by decide +kernel), List.mem_of_getElem? (i := 824) (by decide +kernel), List.mem_of_getElem? (i := 825) (by decide +kernel)⟩
theorem lw_p26 : lw_okq (⟨"ObligaryModel", "fails", "(I)I"⟩, 19) := ⟨⟨by decide +kernel, by decide +kernel⟩, List.mem_of_getElem? (i := 647) (by decide +kernel), List.mem_of_getElem? (i := 836) (by decide +kernel), List.mem_of_getElem? (i := 837) (by decide +kernel)⟩
theorem lw_p27 : lw_okq (⟨"ObligaryModel", "comesNext", "(I)I"⟩, 19) := ⟨⟨by decide +kernel, by decide +kernel⟩, List.mem_of_getElem? (i := 647) (by decide +kernel), List.mem_of_getElem? (i := 852) (by decide +kernel), List.mem_of_getElem? (i := 853) (by decide +kernel)⟩
theorem lw_p28 : lw_okq (⟨"ObligaryModel", "loadOf", "(I)I"⟩, 19) := ⟨⟨by decide +kernel, by decide +kernel⟩, List.mem_of_getElem? (i := 647) (by decide +kernel), List.mem_of_getElem? (i := 868) (by decide +kernel), List.mem_of_getElem? (i := 869) (by decide +kernel)⟩
theorem lw_p29 : lw_okq (⟨"ObligaryModel", "barsLevel", "(IIII)I"⟩, 19) := ⟨⟨by decide +kernel, by decide +kernel⟩, List.mem_of_getElem? (i := 647) (by decide +kernel), List.mem_of_getElem? (i := 880) (by decide +kernel), List.mem_of_getElem? (i := 881) (by decide +kernel)⟩
theorem lw_p30 : lw_okq (⟨"ObligaryModel", "levels", "(III)V"⟩, 19) := ⟨⟨by decide +kernel, by decide +kernel⟩, List.mem_of_getElem? (i := 647) (by decide +kernel), List.mem_of_getElem? (i := 884) (by decide +kernel), List.mem_of_getElem? (i := 885) (by decide +kernel)⟩
theorem lw_p31 : lw_okq (⟨"ObligaryModel", "lays", "(IIII)V"⟩, 19) := ⟨⟨by decide +kernel, by decide +kernel⟩, List.mem_of_getElem? (i := 647) (by decide +kernel), List.mem_of_getElem? (i := 888) (by decide +kernel), List.mem_of_getElem? (i := 889) (by decide +kernel)⟩
def lw_privs_2 : List (MethodName × Nat) := [(⟨"ObligaryModel", "workingFrom", "(II)I"⟩, 19), (⟨"ObligaryModel", "isRule", "(I)Z"⟩, 19), (⟨"ObligaryModel", "reaches", "(II)Z"⟩, 19), (⟨"ObligaryModel", "marks", "()V"⟩, 19), (⟨"ObligaryModel", "isNominal", "(II)Z"⟩, 19), (⟨"ObligaryModel", "moved", "(II)I"⟩, 19), (⟨"ObligaryModel", "dueAt", "(II)I"⟩, 19), (⟨"ObligaryModel", "countBefore", "(II)I"⟩, 19), (⟨"ObligaryModel", "firstFrom", "(II)I"⟩, 19), (⟨"ObligaryModel", "blocks", "([II)I"⟩, 19), (⟨"ObligaryModel", "fails", "(I)I"⟩, 19), (⟨"ObligaryModel", "comesNext", "(I)I"⟩, 19), (⟨"ObligaryModel", "loadOf", "(I)I"⟩, 19), (⟨"ObligaryModel", "barsLevel", "(IIII)I"⟩, 19), (⟨"ObligaryModel", "levels", "(III)V"⟩, 19), (⟨"ObligaryModel", "lays", "(IIII)V"⟩, 19)]
theorem lw_r2 : ∀ q ∈ lw_privs_2, lw_okq q := List.forall_mem_cons.mpr ⟨lw_p16, List.forall_mem_cons.mpr ⟨lw_p17, List.forall_mem_cons.mpr ⟨lw_p18, List.forall_mem_cons.mpr ⟨lw_p19, List.forall_mem_cons.mpr ⟨lw_p20, List.forall_mem_cons.mpr ⟨lw_p21, List.forall_mem_cons.mpr ⟨lw_p22, List.forall_mem_cons.mpr ⟨lw_p23, List.forall_mem_cons.mpr ⟨lw_p24, List.forall_mem_cons.mpr ⟨lw_p25, List.forall_mem_cons.mpr ⟨lw_p26, List.forall_mem_cons.mpr ⟨lw_p27, List.forall_mem_cons.mpr ⟨lw_p28, List.forall_mem_cons.mpr ⟨lw_p29, List.forall_mem_cons.mpr ⟨lw_p30, List.forall_mem_cons.mpr ⟨lw_p31, fun _ h => absurd h List.not_mem_nil⟩⟩⟩⟩⟩⟩⟩⟩⟩⟩⟩⟩⟩⟩⟩⟩
def lw_privs : List (MethodName × Nat) := lw_privs_1 ++ (lw_privs_2)
def lw_tbl : List Cond := k2_sels lw_privs ++ tables_1
theorem lw_privs_ok : ∀ q ∈ lw_privs, lw_okq q := by
  show ∀ q ∈ lw_privs_1 ++ (lw_privs_2), lw_okq q
  exact List.forall_mem_append.mpr ⟨lw_r1, lw_r2⟩

/-! ===== BEGIN words of one list among another's, by their places ===== -/
theorem goodIn_r {big : List Cond} (ws : List Cond) (ps : List Nat) (hp : ws = ps.filterMap (fun i => big[i]?)) (h : ws.all goodWord = true) : GoodIn big ws := by
  intro w hw
  have h1 := List.all_eq_true.mp h w hw
  rw [hp] at hw
  obtain ⟨i, -, hi⟩ := List.mem_filterMap.mp hw
  have hm : w ∈ big := by first | exact List.mem_of_getElem? hi | exact List.getElem?_mem hi
  exact ⟨hm, good_of_word h1⟩
theorem goodIn_app {big a b : List Cond} (ha : GoodIn big a) (hb : GoodIn big b) : GoodIn big (a ++ b) := fun w h => (List.mem_append.mp h).elim (ha w) (hb w)
theorem goodIn_ca {big a b : List Cond} {c : Cond} (ha : GoodIn big (c :: a)) (hb : GoodIn big b) : GoodIn big (c :: (a ++ b)) := fun w h => (List.mem_cons.mp h).elim (fun e => ha w (List.mem_cons.mpr (Or.inl e))) (fun h => (List.mem_append.mp h).elim (fun h => ha w (List.mem_cons.mpr (Or.inr h))) (hb w))
theorem goodIn_sub {big ws : List Cond} (hm : ∀ w ∈ ws, w ∈ big) (h : ws.all goodWord = true) : GoodIn big ws := fun w hw => ⟨hm w hw, good_of_word (List.all_eq_true.mp h w hw)⟩
/-! ===== END ===== -/
/-! ===== BEGIN exceptions that leave a method, and their catching by the caller (launches without stack traces) ===== -/
section VXA
/-! The laws vx_back, vx_callV, vx_callS, vx_callSW, vx_throw0, vx_throwS follow proofs of the library, with one case more: JvmDerived/Free/Laws.lean (Back.of_free), Shelf42/LK1.lean (callV, callS), Shelf/KitTraced.lean (throwNew0V, throwNewS). -/
/-- where a method has thrown q: the class by its name, the cell, what was written, the world -/
def vx_T (XC : String → State → State → Prop) (st : State) (q : Addr) (t : State) (mc ms : Nat) (free : Addr → Prop) : Prop :=
  ∃ (E : String) (ce : Cell) (L : List Loc), XC E st t ∧ t.heap[q]? = some ce ∧ ce.vm = .none ∧ st.vm.findClass E = some ce.cls ∧ st.WarmedH t.vm ∧ st.sameButNew ({ t with vm := st.vm } : State) L mc ms ∧ ∀ z ∈ L, free z.base
def vx_Q (Qc : Array Value → State → Outcome → State → Prop) (XC : String → State → State → Prop) (mc ms : Nat) (free : Addr → Prop) : Array Value → State → Outcome → State → Prop := fun a st o t =>
  (Qc a st o t ∧ ∃ L, FrameEnd st o t L mc ms ∧ ∀ q ∈ L, free q.base) ∨ ∃ q, o = .threw q ∧ vx_T XC st q t mc ms free
/-- a callee that returns or throws -/
def vx_Met (l : Launch) (y : MethodName) (ws : List Cond) (rm : Room) (Pc : Array Value → State → Prop) (Qc : Array Value → State → Outcome → State → Prop) (XC : String → State → State → Prop) (mc ms : Nat) (free : Addr → Prop) : Prop :=
  MetFree l y (headSpec ws rm) Pc (fun _ _ _ _ _ => True) (vx_Q Qc XC mc ms free)
def vx_Post (XC : String → State → State → Prop) (mc ms : Nat) (free : Addr → Prop) : Pt → Array Value → Addr → Pt → Prop := fun A a q B =>
  ∃ (g : JFrame) (mk : MethodId) (t : State) (L : List Loc) (E : String) (ce : Cell), B.U.heap = t.heap ∧ B.U.vm = t.vm ∧ XC E (A.U.calling g mk a) t ∧ t.heap[q]? = some ce ∧ ce.vm = .none ∧ A.U.vm.findClass E = some ce.cls ∧ B.locs = A.locs ++ L ∧ (∀ z ∈ L, free z.base) ∧ B.cells = A.cells + mc ∧ B.slots = A.slots + ms
def vx_Back (l : Launch) (R : Room) (p : Program) (e : Env) (below : List Frame) (s : State) (sargs : Array Value) (y : MethodName) (len W9 : Nat)
    (Pre : Pt → Array Value → Prop) (Post : Pt → Array Value → Option Value → Pt → Prop) (PostX : Pt → Array Value → Addr → Pt → Prop) : Prop :=
  ∀ (m : MethodId) (meth : Method) (c : Code) (A : Pt) (g : JFrame) (ig : Instr) (mk : MethodId) (a : Array Value),
    Stand p l e R s m sargs below meth c A.U A.locs A.cells A.slots → g.method = m → g.locals.size = c.maxLocals → decode c.code g.pc = .ok (ig, len) →
    2 * g.monitorRoom + (g.stack.map fun v => v.category).sum ≤ W9 → A.U.methodNamed? y = some mk → Pre A a →
    (∃ (v : Option Value) (B : Pt), Stand p l e R s m sargs below meth c B.U B.locs B.cells B.slots ∧ Post A a v B ∧
      Steps p.tables e below (doInvoke e (A.U.setTop g) [] mk a).1 (B.U.setTop { g with pc := g.pc + len, stack := v.toList ++ g.stack })) ∨
    (∃ (q : Addr) (B : Pt), Stand p l e R s m sargs below meth c B.U B.locs B.cells B.slots ∧ PostX A a q B ∧
      Steps p.tables e below (doInvoke e (A.U.setTop g) [] mk a).1 ((B.U.setTop g).pushFrame (.throwing q)))
section Payer
variable {l : Launch} {R : Room} {p : Program} {e : Env} {below : List Frame} {s : State} {sargs : Array Value} {y : MethodName} {len W9 : Nat}
theorem vx_back {ws : List Cond} {rm : Room} {Pc : Array Value → State → Prop} {Qc : Array Value → State → Outcome → State → Prop} {XC : String → State → State → Prop} {mc ms : Nat} {free : Addr → Prop} {bytes : ByteArray} {maxL : Nat} {ret : Option FieldType}
    (hM : vx_Met l y ws rm Pc Qc XC mc ms free) (hblind : FrameBlind Pc) (hrc : rm.cells = mc) (hrs : rm.slots = ms)
    (hframes : rm.frames + 1 ≤ R.frames) (hlocals : W9 + (maxL + 11) + rm.locals ≤ R.locals)
    (hws : ∀ w ∈ ws, ∀ a' U, s.WarmedH U.vm → w.before a' U = true) (hcode : Cond.code y bytes maxL ret ∈ ws) (hinit : ∀ a' U, s.WarmedH U.vm → (Cond.initialized y.cls).before a' U = true) :
    vx_Back l R p e below s sargs y len W9 (PreOf R mc ms Pc) (PostOf Qc mc ms free) (vx_Post XC mc ms free) := by
  intro m meth c A g ig mk a X hg hsize hdg hW hn hp
  have h1 : (headSpec ws rm).pre.before a A.U = true := atoms_intro fun w hw => hws w hw _ _ X.warmed
  have h2 : (Cond.code y bytes maxL ret).before a A.U = true := hws _ hcode _ _ X.warmed
  have h3 : (Cond.initialized y.cls).before a A.U = true := hinit _ _ X.warmed
  have h4 : A.cells + (headSpec ws rm).room.cells ≤ R.cells := by rw [show (headSpec ws rm).room.cells = mc from hrc]; exact hp.1
  have h5 : A.slots + (headSpec ws rm).room.slots ≤ R.slots := by rw [show (headSpec ws rm).room.slots = ms from hrs]; exact hp.2.1
  have hPc : Pc a (A.U.calling g mk a) := hblind _ _ _ _ hp.2.2
  obtain ⟨U, Ls, c0, s0⟩ := A
  dsimp only [Pt.U, Pt.locs, Pt.cells, Pt.slots] at h1 h2 h3 h4 h5 X hn hPc ⊢
  obtain ⟨methY, cY, hmY, hcY, -, hlY, -, -, -, -⟩ := Cond.code_spec hn h2
  obtain ⟨kY, hkY, -⟩ := className_of_methodNamed hn
  have hinitY : kY.init = .initialized := Cond.initialized_spec (findClass_of_methodNamed hn) hkY h3
  have h : At U g.method c below := by rw [hg]; exact X.here
  have hlocals9 : W9 + (maxL + 11) + (headSpec ws rm).room.locals ≤ R.locals := hlocals
  have happ : (headSpec ws rm).appliesLoose y e.platform (U.calling g mk a) = true :=
    Spec.appliesLoose_calling (g := g) h hdg hn hkY hinitY
      (X.room_calling (g := g) (R' := (headSpec ws rm).room) hsize hmY hcY hframes (by rw [hlY]; omega) h4 h5) h1
  obtain ⟨mid, hmid⟩ := h.above
  have hfr : (U.setTop g).frames = (.java g :: mid) ++ below := by rw [State.frames_setTop' g h.top, hmid]; rfl
  obtain ⟨o, s₂, hsteps, -, hend, hq⟩ := Steps.callFree hM p X.admits X.cas X.clock (acts := []) hfr happ hPc trivial
  have hq' : vx_Q Qc XC mc ms free a (U.calling g mk a) o s₂ := hq
  rw [State.frames_setTop' g h.top] at hend
  obtain ⟨g₀, hg0⟩ := Option.isSome_iff_exists.mp h.top
  obtain ⟨r, hr⟩ := State.topJava?_eq_some.mp hg0
  have hr' : (({ U with heap := s₂.heap, slotsUsed := s₂.slotsUsed } : State).setVm s₂.vm).frames = .java g₀ :: r := hr
  rcases hq' with ⟨hqc, L, hfe, hL⟩ | ⟨q, rfl, E, ce, L, hx, hce, hcv, hcl, hW₂, hsm, hL⟩
  · obtain ⟨⟨v, rfl⟩, hW₂, e2, q2, q3, q4, q5, q6⟩ := id hfe
    have e3 : s₂ = ({ (U.calling g mk a).setFrames s₂.frames with heap := s₂.heap, slotsUsed := s₂.slotsUsed } : State).setVm s₂.vm := by
      have : s₂ = ({ s₂ with vm := (U.calling g mk a).vm } : State).setVm s₂.vm := rfl
      rw [e2] at this
      exact this
    obtain ⟨c₂, i₂, len₂, hc₂, hd₂, hf₂⟩ := hend
    have hW' : U.WarmedH s₂.vm := hW₂
    have hcc : c₂ = c := by
      have h1 : s₂.code? g.method = U.code? g.method := by
        rw [State.code?_eq, State.code?_eq, hW'.alike.method?]
      exact Option.some.inj (hc₂.symm.trans (h1.trans h.code))
    subst hcc
    have hlen : len₂ = len := by rw [hdg] at hd₂; cases hd₂; rfl
    subst hlen
    have hs₂ : s₂ = (({ U with heap := s₂.heap, slotsUsed := s₂.slotsUsed } : State).setVm s₂.vm).setTop { g with pc := g.pc + len₂, stack := v.toList ++ g.stack } := by
      refine e3.trans ?_
      rw [hf₂, State.calling_eq h.top, State.setFrames_setFrames, State.setTop_of_frames _ hr', hr]
      rfl
    have hsame : U.sameButNew ({ U with heap := s₂.heap, slotsUsed := s₂.slotsUsed } : State) L mc ms := by
      refine ⟨?_, q2, q3, q4, q5, q6⟩
      obtain ⟨t, ht, -⟩ := State.frames_cons hr
      show ({ U with heap := s₂.heap, slotsUsed := s₂.slotsUsed } : State) = { U.setFrames U.frames with heap := s₂.heap, slotsUsed := s₂.slotsUsed }
      rw [State.setFrames_self ht]
    subst hg
    refine Or.inl ⟨v, ⟨(({ U with heap := s₂.heap, slotsUsed := s₂.slotsUsed } : State).setVm s₂.vm), Ls ++ L, c0 + mc, s0 + ms⟩,
      ⟨X.admits, X.cas, X.clock, X.frames, X.room, X.hears, X.method, X.code, (X.here.setHeapUsed s₂.heap s₂.slotsUsed).setVm hW'.alike, X.tail, State.WarmedH.trans X.warmed hW', X.limits, X.bytes, X.same.trans (hsame.setVm s.vm)⟩,
      ⟨g, mk, s₂, L, rfl, rfl, hqc, rfl, hL, rfl, rfl⟩, ?_⟩
    show Steps p.tables e below _ ((({ U with heap := s₂.heap, slotsUsed := s₂.slotsUsed } : State).setVm s₂.vm).setTop { g with pc := g.pc + len₂, stack := v.toList ++ g.stack })
    rw [← hs₂]
    exact hsteps
  · obtain ⟨e2, q2, q3, q4, q5, q6⟩ := id hsm
    have e3 : s₂ = ({ (U.calling g mk a).setFrames s₂.frames with heap := s₂.heap, slotsUsed := s₂.slotsUsed } : State).setVm s₂.vm := by
      have : s₂ = ({ s₂ with vm := (U.calling g mk a).vm } : State).setVm s₂.vm := rfl
      rw [e2] at this
      exact this
    have hf₂ : s₂.frames = .throwing q :: .java g :: U.frames.tail := hend
    have hW' : U.WarmedH s₂.vm := hW₂
    have hs₂ : s₂ = ((({ U with heap := s₂.heap, slotsUsed := s₂.slotsUsed } : State).setVm s₂.vm).setTop g).pushFrame (.throwing q) := by
      refine e3.trans ?_
      rw [hf₂, State.calling_eq h.top, State.setFrames_setFrames, State.pushFrame, State.frames_setTop _ hr', State.setTop_of_frames _ hr', State.setFrames_setFrames, hr]
      rfl
    have hsame : U.sameButNew ({ U with heap := s₂.heap, slotsUsed := s₂.slotsUsed } : State) L mc ms := by
      refine ⟨?_, q2, q3, q4, q5, q6⟩
      obtain ⟨t, ht, -⟩ := State.frames_cons hr
      show ({ U with heap := s₂.heap, slotsUsed := s₂.slotsUsed } : State) = { U.setFrames U.frames with heap := s₂.heap, slotsUsed := s₂.slotsUsed }
      rw [State.setFrames_self ht]
    subst hg
    refine Or.inr ⟨q, ⟨(({ U with heap := s₂.heap, slotsUsed := s₂.slotsUsed } : State).setVm s₂.vm), Ls ++ L, c0 + mc, s0 + ms⟩,
      ⟨X.admits, X.cas, X.clock, X.frames, X.room, X.hears, X.method, X.code, (X.here.setHeapUsed s₂.heap s₂.slotsUsed).setVm hW'.alike, X.tail, State.WarmedH.trans X.warmed hW', X.limits, X.bytes, X.same.trans (hsame.setVm s.vm)⟩,
      ⟨g, mk, s₂, L, E, ce, rfl, rfl, hx, hce, hcv, hcl, rfl, hL, rfl, rfl⟩, ?_⟩
    show Steps p.tables e below _ (((({ U with heap := s₂.heap, slotsUsed := s₂.slotsUsed } : State).setVm s₂.vm).setTop g).pushFrame (.throwing q))
    rw [← hs₂]
    exact hsteps
end Payer
section Calls
variable {p : Program} {l : Launch} {e : Env} {R : Room} {s : State} {m : MethodId} {args : Array Value} {below : List Frame} {meth : Method} {c : Code} {T : State} {locs : List Loc} {cells slots : Nat}
theorem vx_callV (X : Stand p l e R s m args below meth c T locs cells slots) (hexec : p.tables.exec = Jvm.exec) {own C : String} {index : Nat} {y : MethodName} {bytes : ByteArray} {maxL : Nat} {ret : Option FieldType}
    (hown : s.vm.findClass own = some m.cls) (hlink : (Cond.methodLink own index y).before args s = true) (hinst : (Cond.instanceMethod y).before args s = true) (hsel : (Cond.selects C y y).before args s = true)
    (hcode : (Cond.code y bytes maxL ret).before args s = true) (hy : y.cls ≠ "java/lang/invoke/MethodHandle" ∧ y.cls ≠ "java/lang/invoke/VarHandle")
    {W9 : Nat} {Pre : Pt → Array Value → Prop} {Post : Pt → Array Value → Option Value → Pt → Prop} {PostX : Pt → Array Value → Addr → Pt → Prop} (hK : vx_Back l R p e below s args y 3 W9 Pre Post PostX)
    {b : Addr} {cellB : Cell} (hcell : T.heap[b]? = some cellB) (hobj : cellB.vm.isStatics = false) (hcls : s.vm.findClass C = some cellB.cls)
    {g : JFrame} (hg : g.method = m) (hsize : g.locals.size = c.maxLocals) {argsL rest : List Value} (hlen : ∀ sig, parseMethodDescriptor y.desc = some sig → argsL.length = sig.parameters.length)
    (hstack : g.stack = argsL.reverse ++ .ref b :: rest) (hW : 2 * g.monitorRoom + (rest.map fun v => v.category).sum ≤ W9) (hdg : decode c.code g.pc = .ok (.invokevirtual index, 3))
    (hpre : ∀ vm₁, s.WarmedH vm₁ → Pre ⟨T.setVm vm₁, locs, cells, slots⟩ (Value.ref b :: argsL).toArray) :
    (∃ (v : Option Value) (vm₁ : Vm) (B : Pt), s.WarmedH vm₁ ∧ Stand p l e R s m args below meth c B.U B.locs B.cells B.slots ∧ Post ⟨T.setVm vm₁, locs, cells, slots⟩ (Value.ref b :: argsL).toArray v B ∧
      ∀ target, Steps p.tables e below (B.U.setTop { g with pc := g.pc + 3, stack := v.toList ++ rest }) target → Steps p.tables e below (T.setTop g) target) ∨
    (∃ (q : Addr) (vm₁ : Vm) (B : Pt), s.WarmedH vm₁ ∧ Stand p l e R s m args below meth c B.U B.locs B.cells B.slots ∧ PostX ⟨T.setVm vm₁, locs, cells, slots⟩ (Value.ref b :: argsL).toArray q B ∧
      Steps p.tables e below (T.setTop g) ((B.U.setTop { g with stack := rest }).pushFrame (.throwing q))) := by
  obtain ⟨mk, methM, hnamed, hmethM, hstM, habM⟩ := Cond.instanceMethod_spec hinst
  obtain ⟨methM', cM, hmethM', -, -, -, -, -, -, hsigM⟩ := Cond.code_spec hnamed hcode
  cases hmethM.symm.trans hmethM'
  obtain ⟨c2, r2, m2, q1, q2, q3, q4, kP, hkP, hkPi⟩ := Cond.selects_spec hsel
  cases hcls.symm.trans q1
  cases (State.methodFound?_of_named hnamed hy).symm.trans q2
  cases hnamed.symm.trans q3
  have hselP : selectMethod e.platform s.vm cellB.cls mk = .method mk := by rw [Launch.admits_selectMethod X.admits]; exact q4
  obtain ⟨vm₁, X₁, hstep₁⟩ := X.invokevirtual hexec hown hlink hnamed hmethM hstM hkP hkPi hy (a := b) (cell := cellB) hcell
    (fun z h => by rw [h] at hobj; cases hobj) hselP hmethM habM hkP hkPi (g := g) hg (argsL := argsL) (rest := rest) (hlen _ hsigM) hstack hdg
  rcases hK m meth c ⟨T.setVm vm₁, locs, cells, slots⟩ { g with stack := rest } (.invokevirtual index) mk (Value.ref b :: argsL).toArray X₁ hg hsize hdg hW (X₁.named hnamed) (hpre vm₁ X₁.warmed) with ⟨v, B, X', hpost, hsteps⟩ | ⟨q, B, X', hpost, hsteps⟩
  · exact Or.inl ⟨v, vm₁, B, X₁.warmed, X', hpost, fun target h => hstep₁ _ fun acts => by rw [doInvoke_state]; exact hsteps.trans h⟩
  · exact Or.inr ⟨q, vm₁, B, X₁.warmed, X', hpost, hstep₁ _ fun acts => by rw [doInvoke_state]; exact hsteps⟩
theorem vx_callS (X : Stand p l e R s m args below meth c T locs cells slots) (hexec : p.tables.exec = Jvm.exec) {own : String} {index : Nat} {y : MethodName} {bytes : ByteArray} {maxL : Nat} {ret : Option FieldType}
    (hown : s.vm.findClass own = some m.cls) (hlink : (Cond.methodLink own index y).before args s = true) (hstat : (Cond.static y).before args s = true) (hinit : (Cond.initialized y.cls).before args s = true)
    (hcode : (Cond.code y bytes maxL ret).before args s = true) (hy : y.cls ≠ "java/lang/invoke/MethodHandle" ∧ y.cls ≠ "java/lang/invoke/VarHandle")
    {W9 : Nat} {Pre : Pt → Array Value → Prop} {Post : Pt → Array Value → Option Value → Pt → Prop} {PostX : Pt → Array Value → Addr → Pt → Prop} (hK : vx_Back l R p e below s args y 3 W9 Pre Post PostX)
    {g : JFrame} (hg : g.method = m) (hsize : g.locals.size = c.maxLocals) {argsL rest : List Value} (hlen : ∀ sig, parseMethodDescriptor y.desc = some sig → argsL.length = sig.parameters.length)
    (hstack : g.stack = argsL.reverse ++ rest) (hW : 2 * g.monitorRoom + (rest.map fun v => v.category).sum ≤ W9) (hdg : decode c.code g.pc = .ok (.invokestatic index, 3))
    (hpre : ∀ vm₁, s.WarmedH vm₁ → Pre ⟨T.setVm vm₁, locs, cells, slots⟩ argsL.toArray) :
    (∃ (v : Option Value) (vm₁ : Vm) (B : Pt), s.WarmedH vm₁ ∧ Stand p l e R s m args below meth c B.U B.locs B.cells B.slots ∧ Post ⟨T.setVm vm₁, locs, cells, slots⟩ argsL.toArray v B ∧
      ∀ target, Steps p.tables e below (B.U.setTop { g with pc := g.pc + 3, stack := v.toList ++ rest }) target → Steps p.tables e below (T.setTop g) target) ∨
    (∃ (q : Addr) (vm₁ : Vm) (B : Pt), s.WarmedH vm₁ ∧ Stand p l e R s m args below meth c B.U B.locs B.cells B.slots ∧ PostX ⟨T.setVm vm₁, locs, cells, slots⟩ argsL.toArray q B ∧
      Steps p.tables e below (T.setTop g) ((B.U.setTop { g with stack := rest }).pushFrame (.throwing q))) := by
  obtain ⟨mk, hnamed⟩ := Cond.code_named hcode
  obtain ⟨methM, cM, hmethM, -, -, -, -, -, -, hsigM⟩ := Cond.code_spec hnamed hcode
  have hstatic : methM.isStatic = true := Cond.static_spec hnamed hmethM hstat
  obtain ⟨kP, hkP, -⟩ := className_of_methodNamed hnamed
  have hinitP : kP.init = .initialized := Cond.initialized_spec (findClass_of_methodNamed hnamed) hkP hinit
  obtain ⟨vm₁, X₁, hstep₁⟩ := X.invokestatic hexec hown hlink hnamed hmethM hstatic hkP hinitP hy (g := g) hg (argsL := argsL) (rest := rest) (hlen _ hsigM) hstack hdg
  rcases hK m meth c ⟨T.setVm vm₁, locs, cells, slots⟩ { g with stack := rest } (.invokestatic index) mk argsL.toArray X₁ hg hsize hdg hW (X₁.named hnamed) (hpre vm₁ X₁.warmed) with ⟨v, B, X', hpost, hsteps⟩ | ⟨q, B, X', hpost, hsteps⟩
  · exact Or.inl ⟨v, vm₁, B, X₁.warmed, X', hpost, fun target h => hstep₁ _ fun acts => by rw [doInvoke_state]; exact hsteps.trans h⟩
  · exact Or.inr ⟨q, vm₁, B, X₁.warmed, X', hpost, hstep₁ _ fun acts => by rw [doInvoke_state]; exact hsteps⟩
end Calls
theorem vx_cls {s : State} {T : State} {vm₁ : Vm} {E : String} {k : ClassId} (hW : s.WarmedH vm₁) (h : (T.setVm vm₁).vm.findClass E = some k) : s.vm.findClass E = some k := by
  have h1 : vm₁.findClass E = some k := h
  rw [hW.alike.findClass] at h1
  exact h1
/-- the method's frame g, with q thrown over it -/
def vx_W (p : Program) (l : Launch) (e : Env) (R : Room) (s : State) (m : MethodId) (args : Array Value) (below : List Frame) (meth : Method) (c : Code) (H : Heap) (locs : List Loc) (cells slots : Nat) (Q : State → Prop) (g : JFrame) (q : Addr) : Prop :=
  ∀ T : State, T.heap = H → Stand p l e R s m args below meth c T locs cells slots → ∃ t, Steps p.tables e below ((T.setTop g).pushFrame (.throwing q)) t ∧ Q t
def vx_Run (p : Program) (l : Launch) (e : Env) (R : Room) (s : State) (m : MethodId) (args : Array Value) (below : List Frame) (meth : Method) (c : Code) (H : Heap) (locs : List Loc) (cells slots mc ms : Nat) (g : JFrame) (rest : List Value) (Qa : State → Outcome → State → Prop) (XC : String → State → State → Prop) (free : Addr → Prop) : Prop :=
  ∀ T : State, T.heap = H → Stand p l e R s m args below meth c T locs cells slots →
    (∃ (v : Option Value) (st₀ t T' : State) (L : List Loc), st₀.heap = H ∧ Stand p l e R s m args below meth c T' (locs ++ L) (cells + mc) (slots + ms) ∧ (∀ q ∈ L, free q.base) ∧ T'.heap = t.heap ∧ T'.vm = t.vm ∧ Qa st₀ (.returned v) t ∧
      Goes p e below T g T' { g with pc := g.pc + 3, stack := v.toList ++ rest }) ∨
    (∃ (q : Addr) (st₀ t T' : State) (L : List Loc) (E : String) (ce : Cell), st₀.heap = H ∧ Stand p l e R s m args below meth c T' (locs ++ L) (cells + mc) (slots + ms) ∧ (∀ z ∈ L, free z.base) ∧ T'.heap = t.heap ∧ T'.vm = t.vm ∧ XC E st₀ t ∧ t.heap[q]? = some ce ∧ ce.vm = .none ∧ s.vm.findClass E = some ce.cls ∧
      Steps p.tables e below (T.setTop g) ((T'.setTop { g with stack := rest }).pushFrame (.throwing q)))
def vx_X {S : Type} (px : S → Prop) (B : String → S → State → Prop) (A : Nat → Prop) : String → State → State → Prop := fun E st t => ∃ u : S, px u ∧ B E u t ∧ va_F A st t
section Runs
variable {p : Program} {l : Launch} {e : Env} {R : Room} {s : State} {m : MethodId} {args : Array Value} {below : List Frame} {meth : Method} {c : Code} {H : Heap} {locs : List Loc} {cells slots : Nat}
variable {y : MethodName} {bytes cc : ByteArray} {maxL nL mc ms n index : Nat} {ret : Option FieldType} {ws : List Cond} {rm : Room} {Pc : Array Value → State → Prop} {Qc : Array Value → State → Outcome → State → Prop} {XC : String → State → State → Prop} {free : Addr → Prop} {Ts : List Cond} {own C : String} {b : Addr} {As rest : List Value} {g : JFrame}
theorem vx_callBack (cb : CallB R s args own index y bytes maxL ret ws rm mc ms n) (hM : vx_Met l y ws rm Pc Qc XC mc ms free) (hbl : FrameBlind Pc) : vx_Back l R p e below s args y 3 8 (PreOf R mc ms Pc) (PostOf Qc mc ms free) (vx_Post XC mc ms free) := by
  obtain ⟨hrc, hrs, hfr, hlo, hws, hcw, -, hini, -⟩ := cb
  exact vx_back (bytes := bytes) (maxL := maxL) (ret := ret) hM hbl hrc hrs hfr hlo hws hcw (fun a' U hW => word_at hW (Or.inl (by first | rfl | simp [Cond.onTables, Cond.keeps, Cond.steady])) hini)
theorem vx_runV (S : CallFix p m c cc nL s args Ts own) (hM : vx_Met l y ws rm Pc Qc XC mc ms free) (cw : CallW R s args own C index y bytes maxL ret ws rm mc ms n) (hp : PreV s H C b Pc As)
    (hg : g.method = m) (hn : As.length = n) (hsize : g.locals.size = nL) (hstack : g.stack = As.reverse ++ .ref b :: rest) (hW : 2 * g.monitorRoom + (rest.map fun v => v.category).sum ≤ 8) (hdg : decode cc g.pc = .ok (.invokevirtual index, 3)) (hf : cells + mc ≤ R.cells ∧ slots + ms ≤ R.slots) :
    vx_Run p l e R s m args below meth c H locs cells slots mc ms g rest (Qc (Value.ref b :: As).toArray) XC free := by
  have hK : vx_Back l R p e below s args y 3 8 (PreOf R mc ms Pc) (PostOf Qc mc ms free) (vx_Post XC mc ms free) := vx_callBack cw.1 hM hp.1
  obtain ⟨⟨-, -, -, -, -, -, hcode, -, hy, hlen, hl⟩, hin, hse⟩ := cw
  obtain ⟨hx, hb, hml, ho, -⟩ := S
  obtain ⟨-, ⟨cellB, hcB, hoB, hclB⟩, hPc⟩ := hp
  intro T hT X
  rcases vx_callV X hx (C := C) (bytes := bytes) (maxL := maxL) (ret := ret) ho hl hin hse hcode hy hK (by rw [hT]; exact hcB) hoB hclB hg (hsize.trans hml.symm) (argsL := As) (rest := rest) (fun sig h => hn.trans (hlen sig h)) hstack hW (by rw [hb]; exact hdg)
    (fun vm₁ hW₁ => ⟨hf.1, hf.2, hPc (T.setVm vm₁) hT hW₁⟩) with ⟨v, vm₁, ⟨U', l2, c2, s2⟩, hW₁, X', ⟨g', mk, t, L, e1, e2, hq, h1, hL, h2, h3⟩, st⟩ | ⟨q, vm₁, ⟨U', l2, c2, s2⟩, hW₁, X', ⟨g', mk, t, L, E, ce, e1, e2, hq, hce, hcv, hcl, h1, hL, h2, h3⟩, st⟩
  · dsimp only [Pt.U, Pt.locs, Pt.cells, Pt.slots] at X' e1 e2 h1 h2 h3 st
    subst h1; subst h2; subst h3
    exact Or.inl ⟨v, (T.setVm vm₁).calling g' mk (Value.ref b :: As).toArray, t, U', L, hT, X', hL, e1, e2, hq, st⟩
  · dsimp only [Pt.U, Pt.locs, Pt.cells, Pt.slots] at X' e1 e2 h1 h2 h3 st hcl
    subst h1; subst h2; subst h3
    exact Or.inr ⟨q, (T.setVm vm₁).calling g' mk (Value.ref b :: As).toArray, t, U', L, E, ce, hT, X', hL, e1, e2, hq, hce, hcv, vx_cls hW₁ hcl, st⟩
theorem vx_runS (S : CallFix p m c cc nL s args Ts own) (hM : vx_Met l y ws rm Pc Qc XC mc ms free) (cw : CallB R s args own index y bytes maxL ret ws rm mc ms n ∧ (Cond.static y).before args s = true) (hp : PreS s H Pc As)
    (hg : g.method = m) (hn : As.length = n) (hsize : g.locals.size = nL) (hstack : g.stack = As.reverse ++ rest) (hW : 2 * g.monitorRoom + (rest.map fun v => v.category).sum ≤ 8) (hdg : decode cc g.pc = .ok (.invokestatic index, 3)) (hf : cells + mc ≤ R.cells ∧ slots + ms ≤ R.slots) :
    vx_Run p l e R s m args below meth c H locs cells slots mc ms g rest (Qc As.toArray) XC free := by
  have hK : vx_Back l R p e below s args y 3 8 (PreOf R mc ms Pc) (PostOf Qc mc ms free) (vx_Post XC mc ms free) := vx_callBack cw.1 hM hp.1
  obtain ⟨⟨-, -, -, -, -, -, hcode, hini, hy, hlen, hl⟩, hstt⟩ := cw
  obtain ⟨hx, hb, hml, ho, -⟩ := S
  intro T hT X
  rcases vx_callS X hx (bytes := bytes) (maxL := maxL) (ret := ret) ho hl hstt hini hcode hy hK hg (hsize.trans hml.symm) (argsL := As) (rest := rest) (fun sig h => hn.trans (hlen sig h)) hstack hW (by rw [hb]; exact hdg)
    (fun vm₁ hW₁ => ⟨hf.1, hf.2, hp.2 (T.setVm vm₁) hT hW₁⟩) with ⟨v, vm₁, ⟨U', l2, c2, s2⟩, hW₁, X', ⟨g', mk, t, L, e1, e2, hq, h1, hL, h2, h3⟩, st⟩ | ⟨q, vm₁, ⟨U', l2, c2, s2⟩, hW₁, X', ⟨g', mk, t, L, E, ce, e1, e2, hq, hce, hcv, hcl, h1, hL, h2, h3⟩, st⟩
  · dsimp only [Pt.U, Pt.locs, Pt.cells, Pt.slots] at X' e1 e2 h1 h2 h3 st
    subst h1; subst h2; subst h3
    exact Or.inl ⟨v, (T.setVm vm₁).calling g' mk As.toArray, t, U', L, hT, X', hL, e1, e2, hq, st⟩
  · dsimp only [Pt.U, Pt.locs, Pt.cells, Pt.slots] at X' e1 e2 h1 h2 h3 st hcl
    subst h1; subst h2; subst h3
    exact Or.inr ⟨q, (T.setVm vm₁).calling g' mk As.toArray, t, U', L, E, ce, hT, X', hL, e1, e2, hq, hce, hcv, vx_cls hW₁ hcl, st⟩
end Runs
section Rows
variable {p : Program} {l : Launch} {e : Env} {R : Room} {s : State} {m : MethodId} {args : Array Value} {below : List Frame} {meth : Method} {c : Code} {H : Heap} {locs : List Loc} {cells slots : Nat} {Q : State → Prop}
variable {mc ms : Nat} {free : Addr → Prop} {A0 A1 : Nat → Prop} {H0 : Heap} {a : Array Value} {pc : Nat} {ls : Array Slot} {st0 rest : List Value}
theorem vx_keep {st₀ t T' : State} {L : List Loc} (h0 : st₀.heap = H) (e1 : T'.heap = t.heap) (hS : va_S A0 H0 H locs) (hA : ∀ q, q < H.size → A1 q → A0 q) (hf : ∀ q, free q → A0 q) (hL : ∀ q ∈ L, free q.base) (hF : va_F A1 st₀ t) :
    H.size ≤ T'.heap.size ∧ (∀ q : Nat, q < H.size → ¬ A1 q → T'.heap[q]? = H[q]?) ∧ va_S A0 H0 T'.heap (locs ++ L) := by
  obtain ⟨hz, hk⟩ := hF
  rw [h0] at hz hk
  exact ⟨by rw [e1]; exact hz, fun q h1 h2 => by rw [e1]; exact hk q h1 h2,
    ⟨Nat.le_trans hS.1 (by rw [e1]; exact hz), fun q h1 h2 => by rw [e1, hk q (Nat.lt_of_lt_of_le h1 hS.1) (fun z => h2 (hA q (Nat.lt_of_lt_of_le h1 hS.1) z))]; exact hS.2.1 q h1 h2, fun q hq => by
      rcases List.mem_append.mp hq with h | h
      · exact hS.2.2 q h
      · exact hf _ (hL q h)⟩⟩
theorem vx_calli {S SX : Type} {post : Int32 → S → Prop} {px : SX → Prop} {B : S → State → Prop} {BX : String → SX → State → Prop} {AX : Nat → Prop} (hr : vx_Run p l e R s m args below meth c H locs cells slots mc ms (F0 m pc ls st0) rest (va_Qi post B A1 a) (vx_X px BX AX) free) (hS : va_S A0 H0 H locs) (hA : ∀ q, q < H.size → A1 q → A0 q) (hf : ∀ q, free q → A0 q) (hAX : ∀ q, q < H.size → AX q → A0 q)
    (kx : ∀ (E : String) (ce : Cell) (q9 : Addr) (u : SX) (t : State) (H1 : Heap) (locs1 : List Loc), t.heap = H1 → s.vm.Alike t.vm → px u → BX E u t → H.size ≤ H1.size → (∀ q : Nat, q < H.size → ¬ AX q → H1[q]? = H[q]?) → va_S A0 H0 H1 locs1 → H1[q9]? = some ce → ce.vm = .none → s.vm.findClass E = some ce.cls → vx_W p l e R s m args below meth c H1 locs1 (cells + mc) (slots + ms) Q (F0 m pc ls rest) q9)
    (kk : ∀ (r : Int32) (u : S) (t : State) (H1 : Heap) (locs1 : List Loc), t.heap = H1 → s.vm.Alike t.vm → post r u → B u t → H.size ≤ H1.size → (∀ q : Nat, q < H.size → ¬ A1 q → H1[q]? = H[q]?) → va_S A0 H0 H1 locs1 → W p l e R s m args below meth c H1 locs1 (cells + mc) (slots + ms) Q (F0 m (pc + 3) ls (.int r :: rest))) : W p l e R s m args below meth c H locs cells slots Q (F0 m pc ls st0) := by
  intro T hT X
  rcases hr T hT X with ⟨v, st₀, t, T', L, h0, X', hL, e1, e2, ⟨⟨r, u, hv, hp, hb⟩, hF⟩, st⟩ | ⟨q, st₀, t, T', L, E, ce, h0, X', hL, e1, e2, ⟨u, hp, hb, hF⟩, hce, hcv, hcl, st⟩
  · cases hv
    obtain ⟨k1, k2, k3⟩ := vx_keep h0 e1 hS hA hf hL hF
    obtain ⟨t2, a1, b1⟩ := kk r u t T'.heap (locs ++ L) e1.symm (by rw [← e2]; exact X'.warmed.alike) hp hb k1 k2 k3 T' rfl X'
    exact ⟨t2, st t2 a1, b1⟩
  · obtain ⟨k1, k2, k3⟩ := vx_keep h0 e1 hS hAX hf hL hF
    obtain ⟨t2, a1, b1⟩ := kx E ce q u t T'.heap (locs ++ L) e1.symm (by rw [← e2]; exact X'.warmed.alike) hp hb k1 k2 k3 (by rw [e1]; exact hce) hcv hcl T' rfl X'
    exact ⟨t2, st.trans a1, b1⟩
theorem vx_calll {S SX : Type} {post : Int64 → S → Prop} {px : SX → Prop} {B : S → State → Prop} {BX : String → SX → State → Prop} {AX : Nat → Prop} (hr : vx_Run p l e R s m args below meth c H locs cells slots mc ms (F0 m pc ls st0) rest (va_Ql post B A1 a) (vx_X px BX AX) free) (hS : va_S A0 H0 H locs) (hA : ∀ q, q < H.size → A1 q → A0 q) (hf : ∀ q, free q → A0 q) (hAX : ∀ q, q < H.size → AX q → A0 q)
    (kx : ∀ (E : String) (ce : Cell) (q9 : Addr) (u : SX) (t : State) (H1 : Heap) (locs1 : List Loc), t.heap = H1 → s.vm.Alike t.vm → px u → BX E u t → H.size ≤ H1.size → (∀ q : Nat, q < H.size → ¬ AX q → H1[q]? = H[q]?) → va_S A0 H0 H1 locs1 → H1[q9]? = some ce → ce.vm = .none → s.vm.findClass E = some ce.cls → vx_W p l e R s m args below meth c H1 locs1 (cells + mc) (slots + ms) Q (F0 m pc ls rest) q9)
    (kk : ∀ (r : Int64) (u : S) (t : State) (H1 : Heap) (locs1 : List Loc), t.heap = H1 → s.vm.Alike t.vm → post r u → B u t → H.size ≤ H1.size → (∀ q : Nat, q < H.size → ¬ A1 q → H1[q]? = H[q]?) → va_S A0 H0 H1 locs1 → W p l e R s m args below meth c H1 locs1 (cells + mc) (slots + ms) Q (F0 m (pc + 3) ls (.long r :: rest))) : W p l e R s m args below meth c H locs cells slots Q (F0 m pc ls st0) := by
  intro T hT X
  rcases hr T hT X with ⟨v, st₀, t, T', L, h0, X', hL, e1, e2, ⟨⟨r, u, hv, hp, hb⟩, hF⟩, st⟩ | ⟨q, st₀, t, T', L, E, ce, h0, X', hL, e1, e2, ⟨u, hp, hb, hF⟩, hce, hcv, hcl, st⟩
  · cases hv
    obtain ⟨k1, k2, k3⟩ := vx_keep h0 e1 hS hA hf hL hF
    obtain ⟨t2, a1, b1⟩ := kk r u t T'.heap (locs ++ L) e1.symm (by rw [← e2]; exact X'.warmed.alike) hp hb k1 k2 k3 T' rfl X'
    exact ⟨t2, st t2 a1, b1⟩
  · obtain ⟨k1, k2, k3⟩ := vx_keep h0 e1 hS hAX hf hL hF
    obtain ⟨t2, a1, b1⟩ := kx E ce q u t T'.heap (locs ++ L) e1.symm (by rw [← e2]; exact X'.warmed.alike) hp hb k1 k2 k3 (by rw [e1]; exact hce) hcv hcl T' rfl X'
    exact ⟨t2, st.trans a1, b1⟩
theorem vx_callf {S SX : Type} {post : UInt32 → S → Prop} {px : SX → Prop} {B : S → State → Prop} {BX : String → SX → State → Prop} {AX : Nat → Prop} (hr : vx_Run p l e R s m args below meth c H locs cells slots mc ms (F0 m pc ls st0) rest (va_Qf post B A1 a) (vx_X px BX AX) free) (hS : va_S A0 H0 H locs) (hA : ∀ q, q < H.size → A1 q → A0 q) (hf : ∀ q, free q → A0 q) (hAX : ∀ q, q < H.size → AX q → A0 q)
    (kx : ∀ (E : String) (ce : Cell) (q9 : Addr) (u : SX) (t : State) (H1 : Heap) (locs1 : List Loc), t.heap = H1 → s.vm.Alike t.vm → px u → BX E u t → H.size ≤ H1.size → (∀ q : Nat, q < H.size → ¬ AX q → H1[q]? = H[q]?) → va_S A0 H0 H1 locs1 → H1[q9]? = some ce → ce.vm = .none → s.vm.findClass E = some ce.cls → vx_W p l e R s m args below meth c H1 locs1 (cells + mc) (slots + ms) Q (F0 m pc ls rest) q9)
    (kk : ∀ (r : UInt32) (u : S) (t : State) (H1 : Heap) (locs1 : List Loc), t.heap = H1 → s.vm.Alike t.vm → post r u → B u t → H.size ≤ H1.size → (∀ q : Nat, q < H.size → ¬ A1 q → H1[q]? = H[q]?) → va_S A0 H0 H1 locs1 → W p l e R s m args below meth c H1 locs1 (cells + mc) (slots + ms) Q (F0 m (pc + 3) ls (.float r :: rest))) : W p l e R s m args below meth c H locs cells slots Q (F0 m pc ls st0) := by
  intro T hT X
  rcases hr T hT X with ⟨v, st₀, t, T', L, h0, X', hL, e1, e2, ⟨⟨r, u, hv, hp, hb⟩, hF⟩, st⟩ | ⟨q, st₀, t, T', L, E, ce, h0, X', hL, e1, e2, ⟨u, hp, hb, hF⟩, hce, hcv, hcl, st⟩
  · cases hv
    obtain ⟨k1, k2, k3⟩ := vx_keep h0 e1 hS hA hf hL hF
    obtain ⟨t2, a1, b1⟩ := kk r u t T'.heap (locs ++ L) e1.symm (by rw [← e2]; exact X'.warmed.alike) hp hb k1 k2 k3 T' rfl X'
    exact ⟨t2, st t2 a1, b1⟩
  · obtain ⟨k1, k2, k3⟩ := vx_keep h0 e1 hS hAX hf hL hF
    obtain ⟨t2, a1, b1⟩ := kx E ce q u t T'.heap (locs ++ L) e1.symm (by rw [← e2]; exact X'.warmed.alike) hp hb k1 k2 k3 (by rw [e1]; exact hce) hcv hcl T' rfl X'
    exact ⟨t2, st.trans a1, b1⟩
theorem vx_calld {S SX : Type} {post : UInt64 → S → Prop} {px : SX → Prop} {B : S → State → Prop} {BX : String → SX → State → Prop} {AX : Nat → Prop} (hr : vx_Run p l e R s m args below meth c H locs cells slots mc ms (F0 m pc ls st0) rest (va_Qd post B A1 a) (vx_X px BX AX) free) (hS : va_S A0 H0 H locs) (hA : ∀ q, q < H.size → A1 q → A0 q) (hf : ∀ q, free q → A0 q) (hAX : ∀ q, q < H.size → AX q → A0 q)
    (kx : ∀ (E : String) (ce : Cell) (q9 : Addr) (u : SX) (t : State) (H1 : Heap) (locs1 : List Loc), t.heap = H1 → s.vm.Alike t.vm → px u → BX E u t → H.size ≤ H1.size → (∀ q : Nat, q < H.size → ¬ AX q → H1[q]? = H[q]?) → va_S A0 H0 H1 locs1 → H1[q9]? = some ce → ce.vm = .none → s.vm.findClass E = some ce.cls → vx_W p l e R s m args below meth c H1 locs1 (cells + mc) (slots + ms) Q (F0 m pc ls rest) q9)
    (kk : ∀ (r : UInt64) (u : S) (t : State) (H1 : Heap) (locs1 : List Loc), t.heap = H1 → s.vm.Alike t.vm → post r u → B u t → H.size ≤ H1.size → (∀ q : Nat, q < H.size → ¬ A1 q → H1[q]? = H[q]?) → va_S A0 H0 H1 locs1 → W p l e R s m args below meth c H1 locs1 (cells + mc) (slots + ms) Q (F0 m (pc + 3) ls (.double r :: rest))) : W p l e R s m args below meth c H locs cells slots Q (F0 m pc ls st0) := by
  intro T hT X
  rcases hr T hT X with ⟨v, st₀, t, T', L, h0, X', hL, e1, e2, ⟨⟨r, u, hv, hp, hb⟩, hF⟩, st⟩ | ⟨q, st₀, t, T', L, E, ce, h0, X', hL, e1, e2, ⟨u, hp, hb, hF⟩, hce, hcv, hcl, st⟩
  · cases hv
    obtain ⟨k1, k2, k3⟩ := vx_keep h0 e1 hS hA hf hL hF
    obtain ⟨t2, a1, b1⟩ := kk r u t T'.heap (locs ++ L) e1.symm (by rw [← e2]; exact X'.warmed.alike) hp hb k1 k2 k3 T' rfl X'
    exact ⟨t2, st t2 a1, b1⟩
  · obtain ⟨k1, k2, k3⟩ := vx_keep h0 e1 hS hAX hf hL hF
    obtain ⟨t2, a1, b1⟩ := kx E ce q u t T'.heap (locs ++ L) e1.symm (by rw [← e2]; exact X'.warmed.alike) hp hb k1 k2 k3 (by rw [e1]; exact hce) hcv hcl T' rfl X'
    exact ⟨t2, st.trans a1, b1⟩
theorem vx_callv {S SX : Type} {post : S → Prop} {px : SX → Prop} {B : S → State → Prop} {BX : String → SX → State → Prop} {AX : Nat → Prop} (hr : vx_Run p l e R s m args below meth c H locs cells slots mc ms (F0 m pc ls st0) rest (va_Qv post B A1 a) (vx_X px BX AX) free) (hS : va_S A0 H0 H locs) (hA : ∀ q, q < H.size → A1 q → A0 q) (hf : ∀ q, free q → A0 q) (hAX : ∀ q, q < H.size → AX q → A0 q)
    (kx : ∀ (E : String) (ce : Cell) (q9 : Addr) (u : SX) (t : State) (H1 : Heap) (locs1 : List Loc), t.heap = H1 → s.vm.Alike t.vm → px u → BX E u t → H.size ≤ H1.size → (∀ q : Nat, q < H.size → ¬ AX q → H1[q]? = H[q]?) → va_S A0 H0 H1 locs1 → H1[q9]? = some ce → ce.vm = .none → s.vm.findClass E = some ce.cls → vx_W p l e R s m args below meth c H1 locs1 (cells + mc) (slots + ms) Q (F0 m pc ls rest) q9)
    (kk : ∀ (u : S) (t : State) (H1 : Heap) (locs1 : List Loc), t.heap = H1 → s.vm.Alike t.vm → post u → B u t → H.size ≤ H1.size → (∀ q : Nat, q < H.size → ¬ A1 q → H1[q]? = H[q]?) → va_S A0 H0 H1 locs1 → W p l e R s m args below meth c H1 locs1 (cells + mc) (slots + ms) Q (F0 m (pc + 3) ls (rest))) : W p l e R s m args below meth c H locs cells slots Q (F0 m pc ls st0) := by
  intro T hT X
  rcases hr T hT X with ⟨v, st₀, t, T', L, h0, X', hL, e1, e2, ⟨⟨u, hv, hp, hb⟩, hF⟩, st⟩ | ⟨q, st₀, t, T', L, E, ce, h0, X', hL, e1, e2, ⟨u, hp, hb, hF⟩, hce, hcv, hcl, st⟩
  · cases hv
    obtain ⟨k1, k2, k3⟩ := vx_keep h0 e1 hS hA hf hL hF
    obtain ⟨t2, a1, b1⟩ := kk u t T'.heap (locs ++ L) e1.symm (by rw [← e2]; exact X'.warmed.alike) hp hb k1 k2 k3 T' rfl X'
    exact ⟨t2, st t2 a1, b1⟩
  · obtain ⟨k1, k2, k3⟩ := vx_keep h0 e1 hS hAX hf hL hF
    obtain ⟨t2, a1, b1⟩ := kx E ce q u t T'.heap (locs ++ L) e1.symm (by rw [← e2]; exact X'.warmed.alike) hp hb k1 k2 k3 (by rw [e1]; exact hce) hcv hcl T' rfl X'
    exact ⟨t2, st.trans a1, b1⟩
/-- caught by the row x of this method's table; the rows ahead don't take it -/
theorem vx_catch {own name : String} {E : String} {ce : Cell} {q : Addr} (hown : s.vm.findClass own = some m.cls) (pre : List ExceptionTableEntry) (x : ExceptionTableEntry) (suf : List ExceptionTableEntry) (hsplit : c.exceptionTable.toList = pre ++ x :: suf)
    (hpass : ∀ z ∈ pre, covers z pc = false ∨ (z.catchType ≠ 0 ∧ ∃ nm : String, (Cond.classLink own z.catchType nm).before args s = true ∧ va_Nc E nm s)) (hx : covers x pc = true) (h0 : x.catchType ≠ 0)
    (hlink : (Cond.classLink own x.catchType name).before args s = true) (hcast : (Cond.castable E name).before args s = true) (hcell : H[q]? = some ce) (hv : ce.vm = .none) (hcl : s.vm.findClass E = some ce.cls)
    (kk : W p l e R s m args below meth c H locs cells slots Q (F0 m x.handlerPc ls [.ref q])) : vx_W p l e R s m args below meth c H locs cells slots Q (F0 m pc ls rest) q := by
  intro T hT X
  have hpl : e.platform.magicAccessors = ({} : Platform).magicAccessors := by rw [X.admits.platform]
  obtain ⟨c3, c4, hc3, hc4, hasg⟩ := Cond.castable_spec hcast
  cases Option.some.inj (hc3.symm.trans hcl)
  obtain ⟨c5, hc5, hcl5⟩ := Cond.classLink_spec hown hlink e.platform hpl
  cases Option.some.inj (hc4.symm.trans hc5)
  obtain ⟨vm', X', st⟩ := X.thenCaughtThrough q (g := F0 m pc ls rest) rfl (Steps.refl _) (by rw [hT]; exact hcell) (by rw [hv]; rfl) (by obtain ⟨k9, h9, -⟩ := Vm.findClass_spec hcl; exact ⟨k9, h9⟩) pre x suf hsplit
    (fun z hz => by
      rcases hpass z hz with h | ⟨hz0, nm, hl1, hn1⟩
      · exact Or.inl h
      · obtain ⟨c6, hc6, hcl6⟩ := Cond.classLink_spec hown hl1 e.platform hpl
        obtain ⟨a8, b8, h1, h2, h3⟩ := hn1
        cases Option.some.inj (h1.symm.trans hcl)
        cases Option.some.inj (h2.symm.trans hc6)
        exact Or.inr ⟨hz0, _, hcl6, h3⟩) hx (Or.inr ⟨h0, c4, hcl5, hasg⟩)
  obtain ⟨t, a1, b1⟩ := kk (T.setVm vm') hT X'
  exact ⟨t, st.trans a1, b1⟩
end Rows
section Ends
variable {p : Program} {l : Launch} {e : Env} {R : Room} {s : State} {m : MethodId} {args : Array Value} {below : List Frame} {meth : Method} {c : Code} {H : Heap} {locs : List Loc} {cells slots : Nat} {Q : State → Prop}
variable {mc ms : Nat} {free : Addr → Prop} {A0 A1 : Nat → Prop} {H0 : Heap} {a : Array Value} {ls : Array Slot} {st0 rest : List Value}
variable {Qc : Array Value → State → Outcome → State → Prop} {XC : String → State → State → Prop}
/-- what a body that may throw owes at its end -/
def vx_MQ (below : List Frame) (Qc : Array Value → State → Outcome → State → Prop) (XC : String → State → State → Prop) (a : Array Value) (s : State) (mc ms : Nat) (free : Addr → Prop) : State → Prop := fun t =>
  ∃ o, t.status = .running ∧ Ended t below o ∧ vx_Q Qc XC mc ms free a s o t
theorem vx_ret {g : JFrame} {mc ms : Nat} (k : W p l e R s m args below meth c H locs cells slots (MQ below Qc args s mc ms free) g) : W p l e R s m args below meth c H locs cells slots (vx_MQ below Qc XC args s mc ms free) g := by
  intro T hT X
  obtain ⟨t, a1, o, b1, b2, b3, b4⟩ := k T hT X
  exact ⟨t, a1, o, b1, b2, Or.inl ⟨b3, b4⟩⟩
/-- not caught here: it goes on to the caller -/
theorem vx_widen {g : JFrame} {q : Addr} {k n : Nat} (h1 : cells ≤ k) (h2 : slots ≤ n) (kk : vx_W p l e R s m args below meth c H locs k n Q g q) : vx_W p l e R s m args below meth c H locs cells slots Q g q := fun T hT X => kk T hT (stand_widen X h1 h2)
theorem vx_out {pc : Nat} {E : String} {ce : Cell} {q : Addr} {mc ms : Nat} (hout : ∀ x ∈ c.exceptionTable.toList, covers x pc = false) (hlocks : meth.locks = false) (hcell : H[q]? = some ce) (hv : ce.vm = .none) (hcl : s.vm.findClass E = some ce.cls)
    (hx : ∀ t : State, t.heap = H → s.vm.Alike t.vm → XC E s t) (hf : ∀ z ∈ locs, free z.base) (hc : cells ≤ mc) (hs : slots ≤ ms) :
    vx_W p l e R s m args below meth c H locs cells slots (vx_MQ below Qc XC args s mc ms free) (F0 m pc ls rest) q := by
  intro T hT X
  obtain ⟨st1, hrun, hend, hW, hsm⟩ := X.leaveThrown q (g := F0 m pc ls rest) rfl rfl rfl hout hlocks
  have hcell9 : (T.setFrames (.throwing q :: below)).heap[q]? = some ce := by
    show T.heap[q]? = some ce
    rw [hT]; exact hcell
  exact ⟨_, st1, .threw q, hrun, hend, Or.inr ⟨q, rfl, E, ce, locs, hx _ hT hW.alike, hcell9, hv, hcl, hW, hsm.mono hc hs, hf⟩⟩
theorem vx_frame {U : State} {k n : Nat} (h : s.sameButNew ({ U with vm := s.vm } : State) locs k n) : s.heap.size ≤ U.heap.size ∧ ∀ q : Nat, q < s.heap.size → (∀ z ∈ locs, z.base ≠ q) → U.heap[q]? = s.heap[q]? := by
  obtain ⟨-, h2, -, -, -, h6⟩ := h
  refine ⟨h2, fun q hq hz => ?_⟩
  obtain ⟨c9, e1, e2, e3, e4⟩ := h6 q _ (Array.getElem?_eq_getElem hq)
  have hs : c9.slots = (s.heap[q]).slots := Array.ext_getElem? fun i => e4 i fun hm => hz _ hm rfl
  have h9 : c9 = s.heap[q] := by
    rw [hs] at e2
    exact e2
  have e5 : U.heap[q]? = some c9 := e1
  rw [e5, h9, Array.getElem?_eq_getElem hq]
/-- the words of a throw but the four that speak of the heap -/
def vx_no (w : Cond) : Bool := decide (w ≠ .isRef (.static Bundle.tN "UNASSIGNED_STACK" Bundle.steD)) && decide (w ≠ .isRef (.static Bundle.tN "SUPPRESSED_SENTINEL" Bundle.listD)) && decide (w ≠ .laysStatic Bundle.tN "UNASSIGNED_STACK" Bundle.steD) && decide (w ≠ .laysStatic Bundle.tN "SUPPRESSED_SENTINEL" Bundle.listD)
def vx_at0 (own : String) (ic : Nat) (X : String) (names : List String) : List Cond := (Bundle.ownAtoms0 own ic X names).filter vx_no
def vx_atS (own : String) (ic : Nat) (X : String) (names : List String) : List Cond := (Bundle.ownAtoms own ic X names).filter vx_no
/-- a word that the tables alone decide, or a good one -/
def vx_ot (w : Cond) : Bool := w.onTables || goodWord w
theorem vx_ot_at {args a' : Array Value} {s U : State} {w : Cond} (hW : s.WarmedH U.vm) (hvm : s.vm = U.vm) (hg : vx_ot w = true) (h : w.before args s = true) : w.before a' U = true := by
  simp only [vx_ot, Bool.or_eq_true] at hg
  rcases hg with hg | hg
  · exact va_tabs hg hvm h
  · exact word_at hW (good_of_word hg) h
/-- a list's words: the good ones out of the method's own list, the others by premises of their own -/
theorem vx_hat {args : Array Value} {s : State} {L B : List Cond} (h1 : ∀ w ∈ L.filter goodWord, w.before args s = true) (h2 : ∀ w ∈ L.filter (fun w => !goodWord w), w ∈ B) (h3 : ∀ w ∈ B, w.before args s = true) : ∀ w ∈ L, w.before args s = true := by
  intro w hw
  by_cases g : goodWord w = true
  · exact h1 w (List.mem_filter.mpr ⟨hw, g⟩)
  · refine h3 w (h2 w (List.mem_filter.mpr ⟨hw, ?_⟩))
    show (!goodWord w) = true
    cases hgw : goodWord w
    · rfl
    · exact absurd hgw g
theorem vx_c {args : Array Value} {s : State} {w : Cond} {B : List Cond} (h : w.before args s = true) (t : ∀ w ∈ B, w.before args s = true) : ∀ w' ∈ w :: B, w'.before args s = true := fun w' h' => (List.mem_cons.mp h').elim (fun e => by rw [e]; exact h) (t w')
theorem vx_n {args : Array Value} {s : State} : ∀ w ∈ ([] : List Cond), w.before args s = true := fun _ h => nomatch h
theorem vx_own {args : Array Value} {s : State} {L : List Cond} (h1 : ∀ w ∈ L.filter vx_no, w.before args s = true)
    (hU : (Cond.isRef (.static Bundle.tN "UNASSIGNED_STACK" Bundle.steD)).before args s = true) (hN : (Cond.isRef (.static Bundle.tN "SUPPRESSED_SENTINEL" Bundle.listD)).before args s = true)
    (lU : (Cond.laysStatic Bundle.tN "UNASSIGNED_STACK" Bundle.steD).before args s = true) (lN : (Cond.laysStatic Bundle.tN "SUPPRESSED_SENTINEL" Bundle.listD).before args s = true) : ∀ w ∈ L, w.before args s = true := by
  intro w hw
  by_cases e1 : w = .isRef (.static Bundle.tN "UNASSIGNED_STACK" Bundle.steD)
  · rw [e1]; exact hU
  · by_cases e2 : w = .isRef (.static Bundle.tN "SUPPRESSED_SENTINEL" Bundle.listD)
    · rw [e2]; exact hN
    · by_cases e3 : w = .laysStatic Bundle.tN "UNASSIGNED_STACK" Bundle.steD
      · rw [e3]; exact lU
      · by_cases e4 : w = .laysStatic Bundle.tN "SUPPRESSED_SENTINEL" Bundle.listD
        · rw [e4]; exact lN
        · exact h1 w (List.mem_filter.mpr ⟨hw, by unfold vx_no; rw [decide_eq_true e1, decide_eq_true e2, decide_eq_true e3, decide_eq_true e4]; rfl⟩)
/-- where a static field lies, its class's statics cell in H -/
def vx_L (C n d : String) (A : Nat → Prop) (U : State) (H : Heap) : Prop := ∃ (c : ClassId) (k : Class) (i : Nat) (f : Field) (a : Nat) (cell : Cell), U.vm.findClass C = some c ∧ U.fieldFound? C n d = some (c, k, i, f) ∧ f.isStatic = true ∧ k.statics = some a ∧ H[a]? = some cell ∧ cell.vm.isStatics = true ∧ cell.cls = c ∧ f.slot < cell.slots.size ∧ k.staticTypes[f.slot]? = some f.type ∧ ¬ A a
theorem vx_L.moved {C n d : String} {A : Nat → Prop} {u U : State} {H : Heap} (hvm : u.vm.Alike U.vm) (h : vx_L C n d A u H) : vx_L C n d A U H := by
  obtain ⟨c, k, i, f, a, cell, h1, h2, h3, h4, h5, h6, h7, h8, h9, h10⟩ := h
  obtain ⟨k', hi', he⟩ := State.fieldFound?_setVm hvm h2
  exact ⟨c, k', i, f, a, cell, by rw [hvm.findClass]; exact h1, hi', h3, by rw [he]; exact h4, h5, h6, h7, h8, by rw [he]; exact h9, h10⟩
theorem vx_L.kept {C n d : String} {A : Nat → Prop} {U : State} {H H1 : Heap} (h : vx_L C n d A U H) (hq : ∀ a : Nat, a < H.size → ¬ A a → H1[a]? = H[a]?) : vx_L C n d A U H1 := by
  obtain ⟨c, k, i, f, a, cell, h1, h2, h3, h4, h5, h6, h7, h8, h9, h10⟩ := h
  exact ⟨c, k, i, f, a, cell, h1, h2, h3, h4, by rw [hq a (Array.getElem?_eq_some_iff.mp h5).1 h10]; exact h5, h6, h7, h8, h9, h10⟩
theorem vx_L.narrow {C n d : String} {A B : Nat → Prop} {U : State} {H : Heap} (h : vx_L C n d A U H) (hAB : ∀ q, B q → A q) : vx_L C n d B U H := by
  obtain ⟨c, k, i, f, a, cell, h1, h2, h3, h4, h5, h6, h7, h8, h9, h10⟩ := h
  exact ⟨c, k, i, f, a, cell, h1, h2, h3, h4, h5, h6, h7, h8, h9, fun z => h10 (hAB _ z)⟩
theorem vx_L.word {C n d : String} {A : Nat → Prop} {s : State} {args : Array Value} (h : vx_L C n d A s s.heap) : (Cond.laysStatic C n d).before args s = true := by
  obtain ⟨c, k, i, f, a, cell, h1, h2, h3, h4, h5, h6, h7, h8, h9, -⟩ := h
  show (Cond.laysStatic C n d).holds args s none s [] = true
  exact Cond.laysStatic_of h1 h2 h3 h4 h5 h6 h7 h8 h9
/-- .. and what it holds: null or some reference -/
def vx_Zq (C n d : String) (A : Nat → Prop) (U : State) (H : Heap) : Prop := va_Zq C n d A U H ∧ vx_L C n d A U H
theorem vx_Zq.moved {C n d : String} {A : Nat → Prop} {u U : State} {H : Heap} (hvm : u.vm.Alike U.vm) (h : vx_Zq C n d A u H) : vx_Zq C n d A U H := ⟨va_Zq.moved hvm h.1, vx_L.moved hvm h.2⟩
theorem vx_Zq.kept {C n d : String} {A : Nat → Prop} {U : State} {H H1 : Heap} (h : vx_Zq C n d A U H) (hq : ∀ a : Nat, a < H.size → ¬ A a → H1[a]? = H[a]?) : vx_Zq C n d A U H1 := ⟨va_Zq.kept h.1 hq, vx_L.kept h.2 hq⟩
theorem vx_Zq.narrow {C n d : String} {A B : Nat → Prop} {U : State} {H : Heap} (h : vx_Zq C n d A U H) (hAB : ∀ q, B q → A q) : vx_Zq C n d B U H := ⟨va_Zq.narrow h.1 hAB, vx_L.narrow h.2 hAB⟩
theorem vx_Zqof {args : Array Value} {s : State} {C n d : String} {A : Nat → Prop} (hl : (Cond.laysStatic C n d).before args s = true) (hini : (Cond.initialized C).before args s = true) (h : (Cond.isRef (.static C n d)).before args s = true) (hA : ∀ a : Nat, a < s.heap.size → ¬ A a) : vx_Zq C n d A s s.heap := by
  refine ⟨va_Zqof hl hini h hA, ?_⟩
  obtain ⟨c, k, i, f, a, cell, h1, h2, h3, h4, h5, h6, h7, h8, h9⟩ := Cond.laysStatic_spec hl
  exact ⟨c, k, i, f, a, cell, h1, h2, h3, h4, h5, h6, h7, h8, h9, hA a (Array.getElem?_eq_some_iff.mp h5).1⟩
theorem vx_isRef {C n d : String} {v : Value} {A : Nat → Prop} {s : State} {args : Array Value} (h : va_Z C n d v A s s.heap) (hv : v.isRef = true) : (Cond.isRef (.static C n d)).before args s = true := by
  obtain ⟨cf, kf, fi, f, a, cell, h1, h2, h3, h4, h5, h6, h7, -⟩ := h
  have he : (Term.static C n d).eval args s none [] s = some v := by
    simp [Term.eval, State.fieldNamed?, h1, h2, h4, h5, h6, h7]
  simp only [Cond.before, Cond.holds, Cond.value, he]
  cases v <;> simp_all [Value.isRef]
theorem vx_isRefq {C n d : String} {A : Nat → Prop} {s : State} {args : Array Value} (h : va_Zq C n d A s s.heap) : (Cond.isRef (.static C n d)).before args s = true := by
  rcases h with h | ⟨t, h⟩
  · exact vx_isRef h rfl
  · exact vx_isRef h rfl
/-- the same frame, seen from here: as if the method were called anew in this heap -/
theorem vx_rebase {T : State} (X : Stand p l e R s m args below meth c T locs cells slots) {R' : Room} (hf : R'.frames ≤ R.frames) (hl : R'.locals ≤ R.locals) (hc : cells + R'.cells ≤ R.cells) (hs : slots + R'.slots ≤ R.slots) :
    Stand p l e R' ((T.setVm s.vm).setFrames (.invoking m args :: below)) m args below meth c T [] 0 0 := by
  have htop : (T.setVm s.vm).topJava?.isSome := X.here.top
  have hF : ((T.setVm s.vm).setFrames (.invoking m args :: below)).frames = .invoking m args :: below := State.frames_setFrames _ (State.cur_lt_of_top htop)
  obtain ⟨g₀, hg0⟩ := Option.isSome_iff_exists.mp htop
  obtain ⟨r, hr⟩ := State.topJava?_eq_some.mp hg0
  have hl9 : e.platform.stackLimits (T.setVm s.vm).me = e.platform.stackLimits s.me := X.limits
  have hb9 : (T.setVm s.vm).me.stackBytes = s.me.stackBytes := X.bytes
  refine ⟨X.admits, X.cas, X.clock, hF, ?_, X.hears, X.method, X.code, X.here, X.tail, X.warmed, ?_, ?_, ?_⟩
  · have h := X.room
    have hU : ((T.setVm s.vm).setFrames (.invoking m args :: below)).localsInUse = s.localsInUse := by
      rw [State.localsInUse_invoking hF (meth := meth) (c := c) X.method X.code, State.localsInUse_invoking X.frames X.method X.code]
    simp only [State.hasRoom, Bool.and_eq_true, decide_eq_true_eq] at h ⊢
    obtain ⟨⟨⟨⟨h1, h2, h3, h4, h5, h6⟩, h7⟩, h8⟩, h9⟩ := h
    rw [X.frames, List.length_cons] at h2 h3
    have q1 := X.heapSize
    have q2 := X.used
    simp only [hF, hU, List.length_cons, State.stackLimits_setFrames, State.stackBytes_setFrames, hl9, hb9]
    refine ⟨⟨⟨⟨by omega, by omega, by omega, by omega, by omega, h6⟩, ?_⟩, ?_⟩, X.book⟩
    · show T.heap.size + R'.cells ≤ e.platform.maxCells
      omega
    · show T.slotsUsed + R'.slots ≤ e.platform.maxSlots
      omega
  · rw [State.stackLimits_setFrames]; rfl
  · rw [State.stackBytes_setFrames]; rfl
  · refine ⟨?_, Nat.le_refl _, Nat.le_refl _, ?_, ?_, fun a c9 h9 => ⟨c9, h9, rfl, rfl, fun _ _ => rfl⟩⟩
    · obtain ⟨t, ht, -⟩ := State.frames_cons hr
      show T.setVm s.vm = { ((T.setVm s.vm).setFrames (.invoking m args :: below)).setFrames (T.setVm s.vm).frames with heap := T.heap, slotsUsed := T.slotsUsed }
      rw [State.setFrames_setFrames, State.setFrames_self ht]
      rfl
    · show T.slotsUsed = T.slotsUsed + ((T.heap.toList.drop T.heap.size).map (·.slots.size)).sum
      rw [List.drop_eq_nil_of_le (Nat.le_of_eq Array.length_toList)]
      rfl
    · show ((T.heap.toList.drop T.heap.size).map (·.slots.size)).sum ≤ 0
      rw [List.drop_eq_nil_of_le (Nat.le_of_eq Array.length_toList)]
      exact Nat.le_refl _
/-- 'throw new E()': new; dup; invokespecial; athrow -/
theorem vx_throw0 {cc : ByteArray} {pc : Nat} (hexec : p.tables.exec = Jvm.exec) (hb : c.code = cc) (hl : l.stackTraces = false) {own cls : String} {names : List String} {ik ic mc ms : Nat} {A : Nat → Prop}
    (hown : s.vm.findClass own = some m.cls) (hcls : Bundle.fit cls = true) (hnames : ∀ n ∈ names, Bundle.fit n = true)
    (hk : (Cond.classLink own ik cls).before args s = true) (hini : (Cond.initialized cls).before args s = true) (hat : ∀ w ∈ vx_at0 own ic cls names, w.before args s = true)
    (hgood : ∀ w ∈ Cond.classLink own ik cls :: Cond.initialized cls :: vx_at0 own ic cls names, vx_ot w = true)
    (hU : vx_Zq Bundle.tN "UNASSIGNED_STACK" Bundle.steD A s s.heap) (hN : vx_Zq Bundle.tN "SUPPRESSED_SENTINEL" Bundle.listD A s s.heap) (hS : va_S A s.heap H locs) (hsize : ls.size = c.maxLocals)
    (d0 : decode cc pc = .ok (.new ik, 3)) (d3 : decode cc (pc + 3) = .ok (.dup, 1)) (d4 : decode cc (pc + 4) = .ok (.invokespecial ic, 3)) (d7 : decode cc (pc + 7) = .ok (.athrow, 1))
    (hout : ∀ x ∈ c.exceptionTable.toList, covers x (pc + 7) = false)
    (hRframes : names.length + 3 < R.frames) (hRlocals : (rest.map fun v => v.category).sum + (13 * (names.length + 1) + 42) ≤ R.locals) (hRcells : cells + 1 ≤ R.cells) (hRslots : slots + 6 ≤ R.slots) (hlocks : meth.locks = false)
    (hx : ∀ t : State, s.vm.Alike t.vm → H.size ≤ t.heap.size → (∀ q : Nat, q < H.size → t.heap[q]? = H[q]?) → XC cls s t)
    (hf : ∀ z ∈ locs, free z.base) (hc : cells + 1 ≤ mc) (hs : slots + 6 ≤ ms) :
    W p l e R s m args below meth c H locs cells slots (vx_MQ below Qc XC args s mc ms free) (F0 m pc ls rest) := by
  intro T hT X
  have htr : e.platform.stackTraces = false := (show e.platform.stackTraces = l.stackTraces by rw [X.admits.platform]).trans hl
  have Y := vx_rebase X (R' := { frames := R.frames, locals := R.locals, cells := 1, slots := 6 }) (Nat.le_refl _) (Nat.le_refl _) hRcells hRslots
  obtain ⟨s', hA⟩ : ∃ z, z = (T.setVm s.vm).setFrames (.invoking m args :: below) := ⟨_, rfl⟩
  rw [← hA] at Y
  have hvm : s'.vm = s.vm := by rw [hA]; rfl
  have hhp : s'.heap = H := by rw [hA]; exact hT
  have hW0 : s.WarmedH s'.vm := by rw [hvm]; exact State.WarmedH.refl s
  have hat' : ∀ w ∈ vx_at0 own ic cls names, w.before args s' = true := fun w hw => vx_ot_at hW0 hvm.symm (hgood w (List.mem_cons_of_mem _ (List.mem_cons_of_mem _ hw))) (hat w hw)
  have hk' : (Cond.classLink own ik cls).before args s' = true := vx_ot_at hW0 hvm.symm (hgood _ List.mem_cons_self) hk
  have hini' : (Cond.initialized cls).before args s' = true := vx_ot_at hW0 hvm.symm (hgood _ (List.mem_cons_of_mem _ List.mem_cons_self)) hini
  have hU' : vx_Zq Bundle.tN "UNASSIGNED_STACK" Bundle.steD A s' s'.heap := by rw [hhp]; exact vx_Zq.moved hW0.alike (hU.kept hS.2.1)
  have hN' : vx_Zq Bundle.tN "SUPPRESSED_SENTINEL" Bundle.listD A s' s'.heap := by rw [hhp]; exact vx_Zq.moved hW0.alike (hN.kept hS.2.1)
  have h : ∀ w ∈ Bundle.ownAtoms0 own ic cls names, w.before args s' = true := vx_own hat' (vx_isRefq hU'.1) (vx_isRefq hN'.1) hU'.2.word hN'.2.word
  have hown' : s'.vm.findClass own = some m.cls := by rw [hvm]; exact hown
  have hins : (Cond.instantiable cls 6).before args s' = true := h _ (by simp [Bundle.ownAtoms0])
  obtain ⟨vm₁, cX, kX, hfX, hkX, -, -, X₁, st1⟩ := Y.newCold hexec (own := own) (C := cls) (index := ik) (n := 6) hown' hk' hins hini'
    (g := F0 m pc ls rest) rfl (by rw [hb]; exact d0) (Nat.le_refl _) (Nat.le_refl _)
  generalize hT1 : (T.setVm vm₁).pushCell { cls := cX, slots := kX.instanceTypes.map defaultValue, vm := .none } = T1 at X₁ st1
  have hcat : (Value.ref T.heap.size).category = 1 := rfl
  have hcellA : T1.heap[T.heap.size]? = some (freshCell cX kX) := by rw [← hT1]; exact State.heap_pushCell_size _ _
  have d3' : decode c.code (pc + 3) = .ok (.dup, 1) := by rw [hb]; exact d3
  obtain ⟨U, hsteps, hrun, hend, hW, hsame, ce, hce, hO⟩ := X₁.ctorThrow0 hexec htr (own := own) (cls := cls) (names := names) (ic := ic) hown' hcls hnames h (fun x hx => nomatch hx) hfX hkX hcellA (by rw [hhp, hT]; exact Nat.le_refl _)
    (g := { method := m, pc := pc + 4, locals := ls, stack := .ref T.heap.size :: .ref T.heap.size :: rest, locked := none }) rfl hsize rfl rfl (rest := rest) rfl
    (by rw [hb]; exact d4) (by rw [hb]; exact d7) hout hRframes (by simp only [List.map_cons, List.sum_cons, hcat]; omega) hlocks
  obtain ⟨f1, f2⟩ := vx_frame hsame
  rw [hhp] at f1 f2
  have hWs : s.WarmedH U.vm := State.WarmedH.trans hW0 hW
  have hcl : s.vm.findClass cls = some ce.cls := by
    have h9 := hO.cls
    rw [hvm] at h9
    exact h9
  have hall : s.sameButNew ({ U with vm := s.vm } : State) locs mc ms := by
    subst hA
    obtain ⟨e1, e2⟩ := hsame
    rw [State.setFrames_setFrames] at e1
    have h2 : (T.setVm s.vm).sameButNew ({ U with vm := s.vm } : State) [] (0 + 1) (0 + 6) := ⟨e1, e2⟩
    have h3 := X.same.trans h2
    rw [List.append_nil] at h3
    exact h3.mono hc hs
  refine ⟨U, ?_, .threw T.heap.size, hrun, hend, Or.inr ⟨T.heap.size, rfl, cls, ce, locs, hx U hWs.alike f1 (fun q hq => f2 q hq (fun z hz => nomatch hz)), hce, hO.vm, hcl, hWs, hall, hf⟩⟩
  refine st1 _ ?_
  show Steps p.tables e below (T1.setTop { method := m, pc := pc + 3, locals := ls, stack := .ref T.heap.size :: rest, locked := none }) _
  jvm_step X₁.here [X₁.here.top, hexec, d3', Value.category]
  exact hsteps
/-- 'throw new E("text")': new; dup; ldc; invokespecial; athrow -/
theorem vx_throwS {cc : ByteArray} {pc : Nat} (hexec : p.tables.exec = Jvm.exec) (hb : c.code = cc) (hl : l.stackTraces = false) {own cls text : String} {names : List String} {ik is ic mc ms sa : Nat} {A : Nat → Prop}
    (hown : s.vm.findClass own = some m.cls) (hcls : Bundle.fit cls = true) (hnames : ∀ n ∈ names, Bundle.fit n = true)
    (hk : (Cond.classLink own ik cls).before args s = true) (hini : (Cond.initialized cls).before args s = true) (hstr : vk_R own is text sa s) (hat : ∀ w ∈ vx_atS own ic cls names, w.before args s = true)
    (hgood : ∀ w ∈ Cond.classLink own ik cls :: Cond.initialized cls :: vx_atS own ic cls names, vx_ot w = true)
    (hU : vx_Zq Bundle.tN "UNASSIGNED_STACK" Bundle.steD A s s.heap) (hN : vx_Zq Bundle.tN "SUPPRESSED_SENTINEL" Bundle.listD A s s.heap) (hS : va_S A s.heap H locs) (hsize : ls.size = c.maxLocals)
    (d0 : decode cc pc = .ok (.new ik, 3)) (d3 : decode cc (pc + 3) = .ok (.dup, 1)) (d4 : decode cc (pc + 4) = .ok (.ldc is, 2)) (d6 : decode cc (pc + 6) = .ok (.invokespecial ic, 3)) (d9 : decode cc (pc + 9) = .ok (.athrow, 1))
    (hout : ∀ x ∈ c.exceptionTable.toList, covers x (pc + 9) = false)
    (hRframes : names.length + 3 < R.frames) (hRlocals : (rest.map fun v => v.category).sum + (13 * (names.length + 1) + 43) ≤ R.locals) (hRcells : cells + 1 ≤ R.cells) (hRslots : slots + 6 ≤ R.slots) (hlocks : meth.locks = false)
    (hx : ∀ t : State, s.vm.Alike t.vm → H.size ≤ t.heap.size → (∀ q : Nat, q < H.size → t.heap[q]? = H[q]?) → XC cls s t)
    (hf : ∀ z ∈ locs, free z.base) (hc : cells + 1 ≤ mc) (hs : slots + 6 ≤ ms) :
    W p l e R s m args below meth c H locs cells slots (vx_MQ below Qc XC args s mc ms free) (F0 m pc ls rest) := by
  intro T hT X
  have htr : e.platform.stackTraces = false := (show e.platform.stackTraces = l.stackTraces by rw [X.admits.platform]).trans hl
  have Y := vx_rebase X (R' := { frames := R.frames, locals := R.locals, cells := 1, slots := 6 }) (Nat.le_refl _) (Nat.le_refl _) hRcells hRslots
  obtain ⟨s', hA⟩ : ∃ z, z = (T.setVm s.vm).setFrames (.invoking m args :: below) := ⟨_, rfl⟩
  rw [← hA] at Y
  have hvm : s'.vm = s.vm := by rw [hA]; rfl
  have hhp : s'.heap = H := by rw [hA]; exact hT
  have hW0 : s.WarmedH s'.vm := by rw [hvm]; exact State.WarmedH.refl s
  have hat' : ∀ w ∈ vx_atS own ic cls names, w.before args s' = true := fun w hw => vx_ot_at hW0 hvm.symm (hgood w (List.mem_cons_of_mem _ (List.mem_cons_of_mem _ hw))) (hat w hw)
  have hk' : (Cond.classLink own ik cls).before args s' = true := vx_ot_at hW0 hvm.symm (hgood _ List.mem_cons_self) hk
  have hini' : (Cond.initialized cls).before args s' = true := vx_ot_at hW0 hvm.symm (hgood _ (List.mem_cons_of_mem _ List.mem_cons_self)) hini
  have hU' : vx_Zq Bundle.tN "UNASSIGNED_STACK" Bundle.steD A s' s'.heap := by rw [hhp]; exact vx_Zq.moved hW0.alike (hU.kept hS.2.1)
  have hN' : vx_Zq Bundle.tN "SUPPRESSED_SENTINEL" Bundle.listD A s' s'.heap := by rw [hhp]; exact vx_Zq.moved hW0.alike (hN.kept hS.2.1)
  have h : ∀ w ∈ Bundle.ownAtoms own ic cls names, w.before args s' = true := vx_own hat' (vx_isRefq hU'.1) (vx_isRefq hN'.1) hU'.2.word hN'.2.word
  have hown' : s'.vm.findClass own = some m.cls := by rw [hvm]; exact hown
  have hins : (Cond.instantiable cls 6).before args s' = true := h _ (by simp [Bundle.ownAtoms])
  obtain ⟨vm₁, cX, kX, hfX, hkX, -, -, X₁, st1⟩ := Y.newCold hexec (own := own) (C := cls) (index := ik) (n := 6) hown' hk' hins hini'
    (g := F0 m pc ls rest) rfl (by rw [hb]; exact d0) (Nat.le_refl _) (Nat.le_refl _)
  generalize hT1 : (T.setVm vm₁).pushCell { cls := cX, slots := kX.instanceTypes.map defaultValue, vm := .none } = T1 at X₁ st1
  have hcat : (Value.ref T.heap.size).category = 1 := rfl
  have hcellA : T1.heap[T.heap.size]? = some (freshCell cX kX) := by rw [← hT1]; exact State.heap_pushCell_size _ _
  have d3' : decode c.code (pc + 3) = .ok (.dup, 1) := by rw [hb]; exact d3
  have d4' : decode c.code (pc + 4) = .ok (.ldc is, 2) := by rw [hb]; exact d4
  have hstr' : vk_R own is text sa s' := vk_R.warm hW0 hstr
  obtain ⟨U, hsteps, hrun, hend, hW, hsame, ce, hce, hO⟩ := X₁.ctorThrowS hexec htr (own := own) (cls := cls) (names := names) (ic := ic) hown' hcls hnames h (fun x hx => nomatch hx) hfX hkX hcellA (by rw [hhp, hT]; exact Nat.le_refl _) (msg := .ref sa) rfl
    (g := { method := m, pc := pc + 6, locals := ls, stack := .ref sa :: .ref T.heap.size :: .ref T.heap.size :: rest, locked := none }) rfl hsize rfl rfl (rest := rest) rfl
    (by rw [hb]; exact d6) (by rw [hb]; exact d9) hout hRframes (by simp only [List.map_cons, List.sum_cons, hcat]; omega) hlocks
  obtain ⟨f1, f2⟩ := vx_frame hsame
  rw [hhp] at f1 f2
  have hWs : s.WarmedH U.vm := State.WarmedH.trans hW0 hW
  have hcl : s.vm.findClass cls = some ce.cls := by
    have h9 := hO.cls
    rw [hvm] at h9
    exact h9
  have hall : s.sameButNew ({ U with vm := s.vm } : State) locs mc ms := by
    subst hA
    obtain ⟨e1, e2⟩ := hsame
    rw [State.setFrames_setFrames] at e1
    have h2 : (T.setVm s.vm).sameButNew ({ U with vm := s.vm } : State) [] (0 + 1) (0 + 6) := ⟨e1, e2⟩
    have h3 := X.same.trans h2
    rw [List.append_nil] at h3
    exact h3.mono hc hs
  refine ⟨U, ?_, .threw T.heap.size, hrun, hend, Or.inr ⟨T.heap.size, rfl, cls, ce, locs, hx U hWs.alike f1 (fun q hq => f2 q hq (fun z hz => nomatch hz)), hce, hO.vm, hcl, hWs, hall, hf⟩⟩
  refine st1 _ ?_
  show Steps p.tables e below (T1.setTop { method := m, pc := pc + 3, locals := ls, stack := .ref T.heap.size :: rest, locked := none }) _
  jvm_step X₁.here [X₁.here.top, hexec, d3', Value.category]
  exact X₁.ldcString hexec (own := own) (text := text) (index := is) (a := sa) hown' hstr'.1 hstr'.2
    (g := { method := m, pc := pc + 4, locals := ls, stack := .ref T.heap.size :: .ref T.heap.size :: rest, locked := none }) rfl d4' _ hsteps
/-- 'throw new E("text")', the text by a wide index -/
theorem vx_throwSW {cc : ByteArray} {pc : Nat} (hexec : p.tables.exec = Jvm.exec) (hb : c.code = cc) (hl : l.stackTraces = false) {own cls text : String} {names : List String} {ik is ic mc ms sa : Nat} {A : Nat → Prop}
    (hown : s.vm.findClass own = some m.cls) (hcls : Bundle.fit cls = true) (hnames : ∀ n ∈ names, Bundle.fit n = true)
    (hk : (Cond.classLink own ik cls).before args s = true) (hini : (Cond.initialized cls).before args s = true) (hstr : vk_R own is text sa s) (hat : ∀ w ∈ vx_atS own ic cls names, w.before args s = true)
    (hgood : ∀ w ∈ Cond.classLink own ik cls :: Cond.initialized cls :: vx_atS own ic cls names, vx_ot w = true)
    (hU : vx_Zq Bundle.tN "UNASSIGNED_STACK" Bundle.steD A s s.heap) (hN : vx_Zq Bundle.tN "SUPPRESSED_SENTINEL" Bundle.listD A s s.heap) (hS : va_S A s.heap H locs) (hsize : ls.size = c.maxLocals)
    (d0 : decode cc pc = .ok (.new ik, 3)) (d3 : decode cc (pc + 3) = .ok (.dup, 1)) (d4 : decode cc (pc + 4) = .ok (.ldc_w is, 3)) (d7 : decode cc (pc + 7) = .ok (.invokespecial ic, 3)) (d10 : decode cc (pc + 10) = .ok (.athrow, 1))
    (hout : ∀ x ∈ c.exceptionTable.toList, covers x (pc + 10) = false)
    (hRframes : names.length + 3 < R.frames) (hRlocals : (rest.map fun v => v.category).sum + (13 * (names.length + 1) + 43) ≤ R.locals) (hRcells : cells + 1 ≤ R.cells) (hRslots : slots + 6 ≤ R.slots) (hlocks : meth.locks = false)
    (hx : ∀ t : State, s.vm.Alike t.vm → H.size ≤ t.heap.size → (∀ q : Nat, q < H.size → t.heap[q]? = H[q]?) → XC cls s t)
    (hf : ∀ z ∈ locs, free z.base) (hc : cells + 1 ≤ mc) (hs : slots + 6 ≤ ms) :
    W p l e R s m args below meth c H locs cells slots (vx_MQ below Qc XC args s mc ms free) (F0 m pc ls rest) := by
  intro T hT X
  have htr : e.platform.stackTraces = false := (show e.platform.stackTraces = l.stackTraces by rw [X.admits.platform]).trans hl
  have Y := vx_rebase X (R' := { frames := R.frames, locals := R.locals, cells := 1, slots := 6 }) (Nat.le_refl _) (Nat.le_refl _) hRcells hRslots
  obtain ⟨s', hA⟩ : ∃ z, z = (T.setVm s.vm).setFrames (.invoking m args :: below) := ⟨_, rfl⟩
  rw [← hA] at Y
  have hvm : s'.vm = s.vm := by rw [hA]; rfl
  have hhp : s'.heap = H := by rw [hA]; exact hT
  have hW0 : s.WarmedH s'.vm := by rw [hvm]; exact State.WarmedH.refl s
  have hat' : ∀ w ∈ vx_atS own ic cls names, w.before args s' = true := fun w hw => vx_ot_at hW0 hvm.symm (hgood w (List.mem_cons_of_mem _ (List.mem_cons_of_mem _ hw))) (hat w hw)
  have hk' : (Cond.classLink own ik cls).before args s' = true := vx_ot_at hW0 hvm.symm (hgood _ List.mem_cons_self) hk
  have hini' : (Cond.initialized cls).before args s' = true := vx_ot_at hW0 hvm.symm (hgood _ (List.mem_cons_of_mem _ List.mem_cons_self)) hini
  have hU' : vx_Zq Bundle.tN "UNASSIGNED_STACK" Bundle.steD A s' s'.heap := by rw [hhp]; exact vx_Zq.moved hW0.alike (hU.kept hS.2.1)
  have hN' : vx_Zq Bundle.tN "SUPPRESSED_SENTINEL" Bundle.listD A s' s'.heap := by rw [hhp]; exact vx_Zq.moved hW0.alike (hN.kept hS.2.1)
  have h : ∀ w ∈ Bundle.ownAtoms own ic cls names, w.before args s' = true := vx_own hat' (vx_isRefq hU'.1) (vx_isRefq hN'.1) hU'.2.word hN'.2.word
  have hown' : s'.vm.findClass own = some m.cls := by rw [hvm]; exact hown
  have hins : (Cond.instantiable cls 6).before args s' = true := h _ (by simp [Bundle.ownAtoms])
  obtain ⟨vm₁, cX, kX, hfX, hkX, -, -, X₁, st1⟩ := Y.newCold hexec (own := own) (C := cls) (index := ik) (n := 6) hown' hk' hins hini'
    (g := F0 m pc ls rest) rfl (by rw [hb]; exact d0) (Nat.le_refl _) (Nat.le_refl _)
  generalize hT1 : (T.setVm vm₁).pushCell { cls := cX, slots := kX.instanceTypes.map defaultValue, vm := .none } = T1 at X₁ st1
  have hcat : (Value.ref T.heap.size).category = 1 := rfl
  have hcellA : T1.heap[T.heap.size]? = some (freshCell cX kX) := by rw [← hT1]; exact State.heap_pushCell_size _ _
  have d3' : decode c.code (pc + 3) = .ok (.dup, 1) := by rw [hb]; exact d3
  have d4' : decode c.code (pc + 4) = .ok (.ldc_w is, 3) := by rw [hb]; exact d4
  have hstr' : vk_R own is text sa s' := vk_R.warm hW0 hstr
  obtain ⟨U, hsteps, hrun, hend, hW, hsame, ce, hce, hO⟩ := X₁.ctorThrowS hexec htr (own := own) (cls := cls) (names := names) (ic := ic) hown' hcls hnames h (fun x hx => nomatch hx) hfX hkX hcellA (by rw [hhp, hT]; exact Nat.le_refl _) (msg := .ref sa) rfl
    (g := { method := m, pc := pc + 7, locals := ls, stack := .ref sa :: .ref T.heap.size :: .ref T.heap.size :: rest, locked := none }) rfl hsize rfl rfl (rest := rest) rfl
    (by rw [hb]; exact d7) (by rw [hb]; exact d10) hout hRframes (by simp only [List.map_cons, List.sum_cons, hcat]; omega) hlocks
  obtain ⟨f1, f2⟩ := vx_frame hsame
  rw [hhp] at f1 f2
  have hWs : s.WarmedH U.vm := State.WarmedH.trans hW0 hW
  have hcl : s.vm.findClass cls = some ce.cls := by
    have h9 := hO.cls
    rw [hvm] at h9
    exact h9
  have hall : s.sameButNew ({ U with vm := s.vm } : State) locs mc ms := by
    subst hA
    obtain ⟨e1, e2⟩ := hsame
    rw [State.setFrames_setFrames] at e1
    have h2 : (T.setVm s.vm).sameButNew ({ U with vm := s.vm } : State) [] (0 + 1) (0 + 6) := ⟨e1, e2⟩
    have h3 := X.same.trans h2
    rw [List.append_nil] at h3
    exact h3.mono hc hs
  refine ⟨U, ?_, .threw T.heap.size, hrun, hend, Or.inr ⟨T.heap.size, rfl, cls, ce, locs, hx U hWs.alike f1 (fun q hq => f2 q hq (fun z hz => nomatch hz)), hce, hO.vm, hcl, hWs, hall, hf⟩⟩
  refine st1 _ ?_
  show Steps p.tables e below (T1.setTop { method := m, pc := pc + 3, locals := ls, stack := .ref T.heap.size :: rest, locked := none }) _
  jvm_step X₁.here [X₁.here.top, hexec, d3', Value.category]
  exact X₁.ldcStringW hexec (own := own) (text := text) (index := is) (a := sa) hown' hstr'.1 hstr'.2
    (g := { method := m, pc := pc + 4, locals := ls, stack := .ref T.heap.size :: .ref T.heap.size :: rest, locked := none }) rfl d4' _ hsteps
end Ends
section Bodies
variable {l : Launch}
theorem vx_ofW {y : MethodName} {ws ws' : List Cond} {rm : Room} {Pc : Array Value → State → Prop} {Qc : Array Value → State → Outcome → State → Prop} {XC : String → State → State → Prop} {mc ms : Nat} {free : Addr → Prop} {cc : ByteArray} {maxL : Nat} {ret : Option FieldType}
    (hy : plainName y.cls = true) (hw : ws = Cond.code y cc maxL ret :: ws')
    (body : ∀ p e s m args below meth c s₁, BodyLoose p l y (headSpec ws rm) cc maxL ret e s m args below meth c s₁ → c.maxLocals = maxL → (∀ x ∈ c.exceptionTable.toList, False) → Pc args s →
      W p l e (headSpec ws rm).room s m args below meth c s.heap [] 0 0 (vx_MQ below Qc XC args s mc ms free) (entryFrame m args maxL)) : vx_Met l y ws rm Pc Qc XC mc ms free := by
  refine MetFree.of_bodyS (code := cc) (maxLocals := maxL) (ret := ret) hy ?_ ?_
  · intro args s m h hn
    obtain ⟨meth, c, h1, h2, h3, h4, h5, h6, -, -⟩ := Cond.code_spec hn (atoms_spec (ws := ws) h _ (by rw [hw]; exact List.mem_cons_self))
    exact ⟨meth, c, h1, h2, h3, h4, h5, h6⟩
  · intro p e s m args below meth c s₁ B hml hP _
    have hh0 : s₁.heap = s.heap := by rw [B.state]; rfl
    have ht : ∀ x ∈ c.exceptionTable.toList, False := by
      obtain ⟨meth9, c9, h1, h2, -, -, -, -, h7, -⟩ := Cond.code_spec B.named (atoms_spec (ws := ws) B.pre _ (by rw [hw]; exact List.mem_cons_self))
      cases Option.some.inj (h1.symm.trans B.method)
      cases Option.some.inj (h2.symm.trans (Stand.of_body B).code)
      intro x hx
      rw [Array.isEmpty_iff.mp h7] at hx
      cases hx
    obtain ⟨t, a1, o, b1, b2, b3⟩ := body p e s m args below meth c s₁ B hml ht hP s₁ hh0 (Stand.of_body B)
    exact ⟨t, o, a1, b1, b2, b3⟩
/-- the table of a body with handlers -/
theorem vx_table {p : Program} {x y : MethodName} {S : Spec} {cc bytes : ByteArray} {maxL maxL' : Nat} {ret ret' : Option FieldType} {e : Env} {s s₁ : State} {m : MethodId} {args : Array Value} {below : List Frame} {meth : Method} {c : Code} {hh : List (Nat × Nat × Nat × Nat)}
    (B : BodyLoose p l y S cc maxL ret e s m args below meth c s₁) (h : (Cond.codeWith y bytes maxL' ret' hh).before args s = true) : c.exceptionTable.toList = tableOf hh := by
  obtain ⟨m9, meth9, c9, hn9, h1, h2, -, -, h6, -⟩ := Cond.codeWith_spec h
  cases Option.some.inj (hn9.symm.trans B.named)
  cases Option.some.inj (h1.symm.trans B.method)
  cases Option.some.inj (h2.symm.trans (Stand.of_body B).code)
  rw [← h6, table_eq]
end Bodies
end VXA
/-! ===== END ===== -/
/-! ===== BEGIN a static call of a method with an exception table ===== -/
section VXS
variable {p : Program} {l : Launch} {e : Env} {R : Room} {s : State} {m : MethodId} {args : Array Value} {below : List Frame} {meth : Method} {c : Code} {T : State} {H : Heap} {locs : List Loc} {cells slots : Nat}
abbrev vx_CSW (R : Room) (s : State) (args : Array Value) (own : String) (index : Nat) (y : MethodName) (bytes : ByteArray) (maxL : Nat) (ret : Option FieldType) (hh : List (Nat × Nat × Nat × Nat)) (ws : List Cond) (rm : Room) (mc ms n : Nat) : Prop :=
  (rm.cells = mc ∧ rm.slots = ms ∧ rm.frames + 1 ≤ R.frames ∧ 8 + (maxL + 11) + rm.locals ≤ R.locals ∧ (∀ w ∈ ws, ∀ (a' : Array Value) (U : State), s.WarmedH U.vm → w.before a' U = true) ∧ Cond.codeWith y bytes maxL ret hh ∈ ws) ∧
  (Cond.codeWith y bytes maxL ret hh).before args s = true ∧ (Cond.initialized y.cls).before args s = true ∧ (y.cls ≠ "java/lang/invoke/MethodHandle" ∧ y.cls ≠ "java/lang/invoke/VarHandle") ∧
  (∀ sig, parseMethodDescriptor y.desc = some sig → n = sig.parameters.length) ∧ (Cond.methodLink own index y).before args s = true ∧ (Cond.static y).before args s = true
theorem vx_cwSW {own : String} {index maxL mc ms : Nat} {y : MethodName} {bytes : ByteArray} {ret : Option FieldType} {hh : List (Nat × Nat × Nat × Nat)} {Ts ws ws' : List Cond} {rm : Room} (n : Nat) (ht : ∀ w ∈ Ts, w.before args s = true) (hT : GoodIn Ts (va_wsS own index y ws)) (hw : ws = Cond.codeWith y bytes maxL ret hh :: ws') (hrc : rm.cells = mc) (hrs : rm.slots = ms)
    (hd : y.cls ≠ "java/lang/invoke/MethodHandle" ∧ y.cls ≠ "java/lang/invoke/VarHandle" ∧ (parseMethodDescriptor y.desc).map (fun d => d.parameters.length) = some n) (hR : rm.frames + 1 ≤ R.frames ∧ 8 + (maxL + 11) + rm.locals ≤ R.locals) :
    vx_CSW R s args own index y bytes maxL ret hh ws rm mc ms n := by
  have ok : ∀ w ∈ va_wsS own index y ws, w.before args s = true := fun w h => ht w (hT w h).1
  have hG : GoodIn Ts ws := fun w h => hT w (by unfold va_wsS; exact List.mem_append_right _ h)
  have hc : Cond.codeWith y bytes maxL ret hh ∈ ws := by rw [hw]; exact List.mem_cons_self
  refine ⟨⟨hrc, hrs, hR.1, hR.2, pay_in ht hG, hc⟩, ht _ (hG _ hc).1, ok _ (by simp [va_wsS]), ⟨hd.1, hd.2.1⟩, fun sig h => ?_, ok _ (by simp [va_wsS]), ok _ (by simp [va_wsS])⟩
  have h2 := hd.2.2
  rw [h] at h2
  exact (Option.some.inj h2).symm
theorem vx_callSW (X : Stand p l e R s m args below meth c T locs cells slots) (hexec : p.tables.exec = Jvm.exec) {own : String} {index : Nat} {y : MethodName} {bytes : ByteArray} {maxL : Nat} {ret : Option FieldType} {hh : List (Nat × Nat × Nat × Nat)}
    (hown : s.vm.findClass own = some m.cls) (hlink : (Cond.methodLink own index y).before args s = true) (hstat : (Cond.static y).before args s = true) (hinit : (Cond.initialized y.cls).before args s = true)
    (hcode : (Cond.codeWith y bytes maxL ret hh).before args s = true) (hy : y.cls ≠ "java/lang/invoke/MethodHandle" ∧ y.cls ≠ "java/lang/invoke/VarHandle")
    {W9 : Nat} {Pre : Pt → Array Value → Prop} {Post : Pt → Array Value → Option Value → Pt → Prop} (hK : Back l R p e below s args y 3 W9 Pre Post)
    {g : JFrame} (hg : g.method = m) (hsize : g.locals.size = c.maxLocals) {argsL rest : List Value} (hlen : ∀ sig, parseMethodDescriptor y.desc = some sig → argsL.length = sig.parameters.length)
    (hstack : g.stack = argsL.reverse ++ rest) (hW : 2 * g.monitorRoom + (rest.map fun v => v.category).sum ≤ W9) (hdg : decode c.code g.pc = .ok (.invokestatic index, 3))
    (hpre : ∀ vm₁, s.WarmedH vm₁ → Pre ⟨T.setVm vm₁, locs, cells, slots⟩ argsL.toArray) :
    ∃ (v : Option Value) (vm₁ : Vm) (B : Pt), s.WarmedH vm₁ ∧ Stand p l e R s m args below meth c B.U B.locs B.cells B.slots ∧ Post ⟨T.setVm vm₁, locs, cells, slots⟩ argsL.toArray v B ∧
      ∀ target, Steps p.tables e below (B.U.setTop { g with pc := g.pc + 3, stack := v.toList ++ rest }) target → Steps p.tables e below (T.setTop g) target := by
  obtain ⟨mk, methM, cM, hnamed, hmethM, -, -, -, -, -, -, hsigM⟩ := Cond.codeWith_spec hcode
  have hstatic : methM.isStatic = true := Cond.static_spec hnamed hmethM hstat
  obtain ⟨kP, hkP, -⟩ := className_of_methodNamed hnamed
  have hinitP : kP.init = .initialized := Cond.initialized_spec (findClass_of_methodNamed hnamed) hkP hinit
  obtain ⟨vm₁, X₁, hstep₁⟩ := X.invokestatic hexec hown hlink hnamed hmethM hstatic hkP hinitP hy (g := g) hg (argsL := argsL) (rest := rest) (hlen _ hsigM) hstack hdg
  obtain ⟨v, B, X', hpost, hsteps⟩ := hK m meth c ⟨T.setVm vm₁, locs, cells, slots⟩ { g with stack := rest } (.invokestatic index) mk argsL.toArray X₁ hg hsize hdg hW (X₁.named hnamed) (hpre vm₁ X₁.warmed)
  exact ⟨v, vm₁, B, X₁.warmed, X', hpost, fun target h => hstep₁ _ fun acts => by rw [doInvoke_state]; exact hsteps.trans h⟩
theorem vx_runSW {y : MethodName} {bytes cc : ByteArray} {maxL nL mc ms n index : Nat} {ret : Option FieldType} {hh : List (Nat × Nat × Nat × Nat)} {ws : List Cond} {rm : Room} {Pc : Array Value → State → Prop} {Qc : Array Value → State → Outcome → State → Prop} {free : Addr → Prop} {Ts : List Cond} {own : String} {As rest : List Value} {g : JFrame}
    (S : CallFix p m c cc nL s args Ts own) (hM : Met l y ws rm Pc Qc mc ms free) (cw : vx_CSW R s args own index y bytes maxL ret hh ws rm mc ms n) (hp : PreS s H Pc As)
    (hg : g.method = m) (hn : As.length = n) (hsize : g.locals.size = nL) (hstack : g.stack = As.reverse ++ rest) (hW : 2 * g.monitorRoom + (rest.map fun v => v.category).sum ≤ 8) (hdg : decode cc g.pc = .ok (.invokestatic index, 3)) (hf : cells + mc ≤ R.cells ∧ slots + ms ≤ R.slots) :
    va_Run p l e R s m args below meth c H locs cells slots mc ms g rest (Qc As.toArray) (free) := by
  obtain ⟨⟨hrc, hrs, hfr, hlo, hws, hcw⟩, hcode, hini, hy, hlen, hl, hstt⟩ := cw
  have hK : Back l R p e below s args y 3 8 (PreOf R mc ms Pc) (PostOf Qc mc ms free) := va_backW (hh := hh) (bytes := bytes) (maxL := maxL) (ret := ret) hM hp.1 hrc hrs hfr hlo hws hcw (fun a' U hW => word_at hW (Or.inl (by first | rfl | simp [Cond.onTables, Cond.keeps, Cond.steady])) hini)
  obtain ⟨hx, hb, hml, ho, -⟩ := S
  intro T hT X
  obtain ⟨v, vm₁, ⟨U', l2, c2, s2⟩, hW₁, X', ⟨g', mk, t, L, e1, e2, hq, h1, hL, h2, h3⟩, st⟩ := vx_callSW X hx (hh := hh) (bytes := bytes) (maxL := maxL) (ret := ret) ho hl hstt hini hcode hy hK hg (hsize.trans hml.symm) (argsL := As) (rest := rest) (fun sig h => hn.trans (hlen sig h)) hstack hW (by rw [hb]; exact hdg)
    (fun vm₁ hW₁ => ⟨hf.1, hf.2, hp.2 (T.setVm vm₁) hT hW₁⟩)
  dsimp only [Pt.U, Pt.locs, Pt.cells, Pt.slots] at X' e1 e2 h1 h2 h3 st
  subst h1; subst h2; subst h3
  exact ⟨v, (T.setVm vm₁).calling g' mk As.toArray, t, U', L, hT, X', hL, e1, e2, hq, st⟩
/-- not caught here, past rows that name other classes: it goes on to the caller -/
theorem vx_outP {p : Program} {l : Launch} {e : Env} {R : Room} {s : State} {m : MethodId} {args : Array Value} {below : List Frame} {meth : Method} {c : Code} {H : Heap} {locs : List Loc} {cells slots : Nat} {free : Addr → Prop} {ls : Array Slot} {rest : List Value} {Qc : Array Value → State → Outcome → State → Prop} {XC : String → State → State → Prop}
    {pc : Nat} {own E : String} {ce : Cell} {q : Addr} {mc ms : Nat} (hown : s.vm.findClass own = some m.cls) (hlocks : meth.locks = false)
    (hpass : ∀ z ∈ c.exceptionTable.toList, covers z pc = false ∨ (z.catchType ≠ 0 ∧ ∃ nm : String, (Cond.classLink own z.catchType nm).before args s = true ∧ va_Nc E nm s)) (hcell : H[q]? = some ce) (hv : ce.vm = .none) (hcl : s.vm.findClass E = some ce.cls)
    (hx : ∀ t : State, t.heap = H → s.vm.Alike t.vm → XC E s t) (hf : ∀ z ∈ locs, free z.base) (hc : cells ≤ mc) (hs : slots ≤ ms) :
    vx_W p l e R s m args below meth c H locs cells slots (vx_MQ below Qc XC args s mc ms free) (F0 m pc ls rest) q := by
  intro T hT X
  have hpl : e.platform.magicAccessors = ({} : Platform).magicAccessors := by rw [X.admits.platform]
  obtain ⟨vm', hW', X', st⟩ := X.outThrough hlocks q (g := F0 m pc ls rest) rfl rfl rfl (cell := ce) (by rw [hT]; exact hcell) (by rw [hv]; rfl)
    (by obtain ⟨k9, h9, -⟩ := Vm.findClass_spec hcl; exact ⟨k9, h9⟩) (fun z hz => by
      rcases hpass z hz with h | ⟨hz0, nm, hl1, hn1⟩
      · exact Or.inl h
      · obtain ⟨c6, hc6, hcl6⟩ := Cond.classLink_spec hown hl1 e.platform hpl
        obtain ⟨a8, b8, h1, h2, h3⟩ := hn1
        cases Option.some.inj (h1.symm.trans hcl)
        cases Option.some.inj (h2.symm.trans hc6)
        exact Or.inr ⟨hz0, _, hcl6, h3⟩)
  obtain ⟨g₀, hfr⟩ := X'.frames_eq
  have hcell9 : ((T.setVm vm').setFrames (.throwing q :: below)).heap[q]? = some ce := by
    show T.heap[q]? = some ce
    rw [hT]; exact hcell
  have hend : Ended ((T.setVm vm').setFrames (.throwing q :: below)) below (.threw q) := State.frames_setFrames _ (State.cur_lt_of_frames hfr)
  refine ⟨(T.setVm vm').setFrames (.throwing q :: below), ?_, .threw q, X'.here.running, hend, Or.inr ⟨q, rfl, E, ce, locs, hx _ hT (X'.ends _).1.alike, hcell9, hv, hcl, (X'.ends _).1, (X'.ends _).2.mono hc hs, hf⟩⟩
  rw [X.pushThrowing_eq]
  exact st
/-- a thing of a world lies in the heap -/
theorem vx_lt {D : va_G} {cl : List vw_C} {ws : va_W} {H1 : Heap} (h : va_P D cl ws H1) {k : Nat} {q : Nat × va_E} (hk : ws[k]? = some q) : q.1 < H1.size := (h k q hk).lt
end VXS
/-! ===== END ===== -/
/-! ===== BEGIN methods with a table of their own: called by a name, returning or throwing ===== -/
section VXH
/-! vx_backW, vx_callVX, vx_callSX, vx_callVW, vx_runVW, vx_runVX, vx_runSX, vx_ofWH follow the same proofs as their sisters above (Free/Laws.lean, Shelf42/LK1.lean); vx_outP calls Shelf42/NT130.lean (outThrough). -/
section
variable {l : Launch} {R : Room} {p : Program} {e : Env} {below : List Frame} {s : State} {sargs : Array Value} {y : MethodName} {len W9 : Nat}
theorem vx_backW {ws : List Cond} {rm : Room} {Pc : Array Value → State → Prop} {Qc : Array Value → State → Outcome → State → Prop} {XC : String → State → State → Prop} {mc ms : Nat} {free : Addr → Prop} {bytes : ByteArray} {maxL : Nat} {ret : Option FieldType} {hh : List (Nat × Nat × Nat × Nat)}
    (hM : vx_Met l y ws rm Pc Qc XC mc ms free) (hblind : FrameBlind Pc) (hrc : rm.cells = mc) (hrs : rm.slots = ms)
    (hframes : rm.frames + 1 ≤ R.frames) (hlocals : W9 + (maxL + 11) + rm.locals ≤ R.locals)
    (hws : ∀ w ∈ ws, ∀ a' U, s.WarmedH U.vm → w.before a' U = true) (hcode : Cond.codeWith y bytes maxL ret hh ∈ ws) (hinit : ∀ a' U, s.WarmedH U.vm → (Cond.initialized y.cls).before a' U = true) :
    vx_Back l R p e below s sargs y len W9 (PreOf R mc ms Pc) (PostOf Qc mc ms free) (vx_Post XC mc ms free) := by
  intro m meth c A g ig mk a X hg hsize hdg hW hn hp
  have h1 : (headSpec ws rm).pre.before a A.U = true := atoms_intro fun w hw => hws w hw _ _ X.warmed
  have h2 : (Cond.codeWith y bytes maxL ret hh).before a A.U = true := hws _ hcode _ _ X.warmed
  have h3 : (Cond.initialized y.cls).before a A.U = true := hinit _ _ X.warmed
  have h4 : A.cells + (headSpec ws rm).room.cells ≤ R.cells := by rw [show (headSpec ws rm).room.cells = mc from hrc]; exact hp.1
  have h5 : A.slots + (headSpec ws rm).room.slots ≤ R.slots := by rw [show (headSpec ws rm).room.slots = ms from hrs]; exact hp.2.1
  have hPc : Pc a (A.U.calling g mk a) := hblind _ _ _ _ hp.2.2
  obtain ⟨U, Ls, c0, s0⟩ := A
  dsimp only [Pt.U, Pt.locs, Pt.cells, Pt.slots] at h1 h2 h3 h4 h5 X hn hPc ⊢
  obtain ⟨m9, methY, cY, hn9, hmY, hcY, -, hlY, -⟩ := Cond.codeWith_spec h2
  cases Option.some.inj (hn9.symm.trans hn)
  obtain ⟨kY, hkY, -⟩ := className_of_methodNamed hn
  have hinitY : kY.init = .initialized := Cond.initialized_spec (findClass_of_methodNamed hn) hkY h3
  have h : At U g.method c below := by rw [hg]; exact X.here
  have hlocals9 : W9 + (maxL + 11) + (headSpec ws rm).room.locals ≤ R.locals := hlocals
  have happ : (headSpec ws rm).appliesLoose y e.platform (U.calling g mk a) = true :=
    Spec.appliesLoose_calling (g := g) h hdg hn hkY hinitY
      (X.room_calling (g := g) (R' := (headSpec ws rm).room) hsize hmY hcY hframes (by rw [hlY]; omega) h4 h5) h1
  obtain ⟨mid, hmid⟩ := h.above
  have hfr : (U.setTop g).frames = (.java g :: mid) ++ below := by rw [State.frames_setTop' g h.top, hmid]; rfl
  obtain ⟨o, s₂, hsteps, -, hend, hq⟩ := Steps.callFree hM p X.admits X.cas X.clock (acts := []) hfr happ hPc trivial
  have hq' : vx_Q Qc XC mc ms free a (U.calling g mk a) o s₂ := hq
  rw [State.frames_setTop' g h.top] at hend
  obtain ⟨g₀, hg0⟩ := Option.isSome_iff_exists.mp h.top
  obtain ⟨r, hr⟩ := State.topJava?_eq_some.mp hg0
  have hr' : (({ U with heap := s₂.heap, slotsUsed := s₂.slotsUsed } : State).setVm s₂.vm).frames = .java g₀ :: r := hr
  rcases hq' with ⟨hqc, L, hfe, hL⟩ | ⟨q, rfl, E, ce, L, hx, hce, hcv, hcl, hW₂, hsm, hL⟩
  · obtain ⟨⟨v, rfl⟩, hW₂, e2, q2, q3, q4, q5, q6⟩ := id hfe
    have e3 : s₂ = ({ (U.calling g mk a).setFrames s₂.frames with heap := s₂.heap, slotsUsed := s₂.slotsUsed } : State).setVm s₂.vm := by
      have : s₂ = ({ s₂ with vm := (U.calling g mk a).vm } : State).setVm s₂.vm := rfl
      rw [e2] at this
      exact this
    obtain ⟨c₂, i₂, len₂, hc₂, hd₂, hf₂⟩ := hend
    have hW' : U.WarmedH s₂.vm := hW₂
    have hcc : c₂ = c := by
      have h1 : s₂.code? g.method = U.code? g.method := by
        rw [State.code?_eq, State.code?_eq, hW'.alike.method?]
      exact Option.some.inj (hc₂.symm.trans (h1.trans h.code))
    subst hcc
    have hlen : len₂ = len := by rw [hdg] at hd₂; cases hd₂; rfl
    subst hlen
    have hs₂ : s₂ = (({ U with heap := s₂.heap, slotsUsed := s₂.slotsUsed } : State).setVm s₂.vm).setTop { g with pc := g.pc + len₂, stack := v.toList ++ g.stack } := by
      refine e3.trans ?_
      rw [hf₂, State.calling_eq h.top, State.setFrames_setFrames, State.setTop_of_frames _ hr', hr]
      rfl
    have hsame : U.sameButNew ({ U with heap := s₂.heap, slotsUsed := s₂.slotsUsed } : State) L mc ms := by
      refine ⟨?_, q2, q3, q4, q5, q6⟩
      obtain ⟨t, ht, -⟩ := State.frames_cons hr
      show ({ U with heap := s₂.heap, slotsUsed := s₂.slotsUsed } : State) = { U.setFrames U.frames with heap := s₂.heap, slotsUsed := s₂.slotsUsed }
      rw [State.setFrames_self ht]
    subst hg
    refine Or.inl ⟨v, ⟨(({ U with heap := s₂.heap, slotsUsed := s₂.slotsUsed } : State).setVm s₂.vm), Ls ++ L, c0 + mc, s0 + ms⟩,
      ⟨X.admits, X.cas, X.clock, X.frames, X.room, X.hears, X.method, X.code, (X.here.setHeapUsed s₂.heap s₂.slotsUsed).setVm hW'.alike, X.tail, State.WarmedH.trans X.warmed hW', X.limits, X.bytes, X.same.trans (hsame.setVm s.vm)⟩,
      ⟨g, mk, s₂, L, rfl, rfl, hqc, rfl, hL, rfl, rfl⟩, ?_⟩
    show Steps p.tables e below _ ((({ U with heap := s₂.heap, slotsUsed := s₂.slotsUsed } : State).setVm s₂.vm).setTop { g with pc := g.pc + len₂, stack := v.toList ++ g.stack })
    rw [← hs₂]
    exact hsteps
  · obtain ⟨e2, q2, q3, q4, q5, q6⟩ := id hsm
    have e3 : s₂ = ({ (U.calling g mk a).setFrames s₂.frames with heap := s₂.heap, slotsUsed := s₂.slotsUsed } : State).setVm s₂.vm := by
      have : s₂ = ({ s₂ with vm := (U.calling g mk a).vm } : State).setVm s₂.vm := rfl
      rw [e2] at this
      exact this
    have hf₂ : s₂.frames = .throwing q :: .java g :: U.frames.tail := hend
    have hW' : U.WarmedH s₂.vm := hW₂
    have hs₂ : s₂ = ((({ U with heap := s₂.heap, slotsUsed := s₂.slotsUsed } : State).setVm s₂.vm).setTop g).pushFrame (.throwing q) := by
      refine e3.trans ?_
      rw [hf₂, State.calling_eq h.top, State.setFrames_setFrames, State.pushFrame, State.frames_setTop _ hr', State.setTop_of_frames _ hr', State.setFrames_setFrames, hr]
      rfl
    have hsame : U.sameButNew ({ U with heap := s₂.heap, slotsUsed := s₂.slotsUsed } : State) L mc ms := by
      refine ⟨?_, q2, q3, q4, q5, q6⟩
      obtain ⟨t, ht, -⟩ := State.frames_cons hr
      show ({ U with heap := s₂.heap, slotsUsed := s₂.slotsUsed } : State) = { U.setFrames U.frames with heap := s₂.heap, slotsUsed := s₂.slotsUsed }
      rw [State.setFrames_self ht]
    subst hg
    refine Or.inr ⟨q, ⟨(({ U with heap := s₂.heap, slotsUsed := s₂.slotsUsed } : State).setVm s₂.vm), Ls ++ L, c0 + mc, s0 + ms⟩,
      ⟨X.admits, X.cas, X.clock, X.frames, X.room, X.hears, X.method, X.code, (X.here.setHeapUsed s₂.heap s₂.slotsUsed).setVm hW'.alike, X.tail, State.WarmedH.trans X.warmed hW', X.limits, X.bytes, X.same.trans (hsame.setVm s.vm)⟩,
      ⟨g, mk, s₂, L, E, ce, rfl, rfl, hx, hce, hcv, hcl, rfl, hL, rfl, rfl⟩, ?_⟩
    show Steps p.tables e below _ (((({ U with heap := s₂.heap, slotsUsed := s₂.slotsUsed } : State).setVm s₂.vm).setTop g).pushFrame (.throwing q))
    rw [← hs₂]
    exact hsteps
end
variable {p : Program} {l : Launch} {e : Env} {R : Room} {s : State} {m : MethodId} {args : Array Value} {below : List Frame} {meth : Method} {c : Code} {T : State} {H : Heap} {locs : List Loc} {cells slots : Nat}
theorem vx_callVX (X : Stand p l e R s m args below meth c T locs cells slots) (hexec : p.tables.exec = Jvm.exec) {own C : String} {index : Nat} {y : MethodName} {bytes : ByteArray} {maxL : Nat} {ret : Option FieldType} {hh : List (Nat × Nat × Nat × Nat)}
    (hown : s.vm.findClass own = some m.cls) (hlink : (Cond.methodLink own index y).before args s = true) (hinst : (Cond.instanceMethod y).before args s = true) (hsel : (Cond.selects C y y).before args s = true)
    (hcode : (Cond.codeWith y bytes maxL ret hh).before args s = true) (hy : y.cls ≠ "java/lang/invoke/MethodHandle" ∧ y.cls ≠ "java/lang/invoke/VarHandle")
    {W9 : Nat} {Pre : Pt → Array Value → Prop} {Post : Pt → Array Value → Option Value → Pt → Prop} {PostX : Pt → Array Value → Addr → Pt → Prop} (hK : vx_Back l R p e below s args y 3 W9 Pre Post PostX)
    {b : Addr} {cellB : Cell} (hcell : T.heap[b]? = some cellB) (hobj : cellB.vm.isStatics = false) (hcls : s.vm.findClass C = some cellB.cls)
    {g : JFrame} (hg : g.method = m) (hsize : g.locals.size = c.maxLocals) {argsL rest : List Value} (hlen : ∀ sig, parseMethodDescriptor y.desc = some sig → argsL.length = sig.parameters.length)
    (hstack : g.stack = argsL.reverse ++ .ref b :: rest) (hW : 2 * g.monitorRoom + (rest.map fun v => v.category).sum ≤ W9) (hdg : decode c.code g.pc = .ok (.invokevirtual index, 3))
    (hpre : ∀ vm₁, s.WarmedH vm₁ → Pre ⟨T.setVm vm₁, locs, cells, slots⟩ (Value.ref b :: argsL).toArray) :
    (∃ (v : Option Value) (vm₁ : Vm) (B : Pt), s.WarmedH vm₁ ∧ Stand p l e R s m args below meth c B.U B.locs B.cells B.slots ∧ Post ⟨T.setVm vm₁, locs, cells, slots⟩ (Value.ref b :: argsL).toArray v B ∧
      ∀ target, Steps p.tables e below (B.U.setTop { g with pc := g.pc + 3, stack := v.toList ++ rest }) target → Steps p.tables e below (T.setTop g) target) ∨
    (∃ (q : Addr) (vm₁ : Vm) (B : Pt), s.WarmedH vm₁ ∧ Stand p l e R s m args below meth c B.U B.locs B.cells B.slots ∧ PostX ⟨T.setVm vm₁, locs, cells, slots⟩ (Value.ref b :: argsL).toArray q B ∧
      Steps p.tables e below (T.setTop g) ((B.U.setTop { g with stack := rest }).pushFrame (.throwing q))) := by
  obtain ⟨mk, methM, hnamed, hmethM, hstM, habM⟩ := Cond.instanceMethod_spec hinst
  obtain ⟨m8, methM', cM, hn8, hmethM', -, -, -, -, -, -, hsigM⟩ := Cond.codeWith_spec hcode
  cases Option.some.inj (hn8.symm.trans hnamed)
  cases hmethM.symm.trans hmethM'
  obtain ⟨c2, r2, m2, q1, q2, q3, q4, kP, hkP, hkPi⟩ := Cond.selects_spec hsel
  cases hcls.symm.trans q1
  cases (State.methodFound?_of_named hnamed hy).symm.trans q2
  cases hnamed.symm.trans q3
  have hselP : selectMethod e.platform s.vm cellB.cls mk = .method mk := by rw [Launch.admits_selectMethod X.admits]; exact q4
  obtain ⟨vm₁, X₁, hstep₁⟩ := X.invokevirtual hexec hown hlink hnamed hmethM hstM hkP hkPi hy (a := b) (cell := cellB) hcell
    (fun z h => by rw [h] at hobj; cases hobj) hselP hmethM habM hkP hkPi (g := g) hg (argsL := argsL) (rest := rest) (hlen _ hsigM) hstack hdg
  rcases hK m meth c ⟨T.setVm vm₁, locs, cells, slots⟩ { g with stack := rest } (.invokevirtual index) mk (Value.ref b :: argsL).toArray X₁ hg hsize hdg hW (X₁.named hnamed) (hpre vm₁ X₁.warmed) with ⟨v, B, X', hpost, hsteps⟩ | ⟨q, B, X', hpost, hsteps⟩
  · exact Or.inl ⟨v, vm₁, B, X₁.warmed, X', hpost, fun target h => hstep₁ _ fun acts => by rw [doInvoke_state]; exact hsteps.trans h⟩
  · exact Or.inr ⟨q, vm₁, B, X₁.warmed, X', hpost, hstep₁ _ fun acts => by rw [doInvoke_state]; exact hsteps⟩
theorem vx_callSX (X : Stand p l e R s m args below meth c T locs cells slots) (hexec : p.tables.exec = Jvm.exec) {own : String} {index : Nat} {y : MethodName} {bytes : ByteArray} {maxL : Nat} {ret : Option FieldType} {hh : List (Nat × Nat × Nat × Nat)}
    (hown : s.vm.findClass own = some m.cls) (hlink : (Cond.methodLink own index y).before args s = true) (hstat : (Cond.static y).before args s = true) (hinit : (Cond.initialized y.cls).before args s = true)
    (hcode : (Cond.codeWith y bytes maxL ret hh).before args s = true) (hy : y.cls ≠ "java/lang/invoke/MethodHandle" ∧ y.cls ≠ "java/lang/invoke/VarHandle")
    {W9 : Nat} {Pre : Pt → Array Value → Prop} {Post : Pt → Array Value → Option Value → Pt → Prop} {PostX : Pt → Array Value → Addr → Pt → Prop} (hK : vx_Back l R p e below s args y 3 W9 Pre Post PostX)
    {g : JFrame} (hg : g.method = m) (hsize : g.locals.size = c.maxLocals) {argsL rest : List Value} (hlen : ∀ sig, parseMethodDescriptor y.desc = some sig → argsL.length = sig.parameters.length)
    (hstack : g.stack = argsL.reverse ++ rest) (hW : 2 * g.monitorRoom + (rest.map fun v => v.category).sum ≤ W9) (hdg : decode c.code g.pc = .ok (.invokestatic index, 3))
    (hpre : ∀ vm₁, s.WarmedH vm₁ → Pre ⟨T.setVm vm₁, locs, cells, slots⟩ argsL.toArray) :
    (∃ (v : Option Value) (vm₁ : Vm) (B : Pt), s.WarmedH vm₁ ∧ Stand p l e R s m args below meth c B.U B.locs B.cells B.slots ∧ Post ⟨T.setVm vm₁, locs, cells, slots⟩ argsL.toArray v B ∧
      ∀ target, Steps p.tables e below (B.U.setTop { g with pc := g.pc + 3, stack := v.toList ++ rest }) target → Steps p.tables e below (T.setTop g) target) ∨
    (∃ (q : Addr) (vm₁ : Vm) (B : Pt), s.WarmedH vm₁ ∧ Stand p l e R s m args below meth c B.U B.locs B.cells B.slots ∧ PostX ⟨T.setVm vm₁, locs, cells, slots⟩ argsL.toArray q B ∧
      Steps p.tables e below (T.setTop g) ((B.U.setTop { g with stack := rest }).pushFrame (.throwing q))) := by
  obtain ⟨mk, methM, cM, hnamed, hmethM, -, -, -, -, -, -, hsigM⟩ := Cond.codeWith_spec hcode
  have hstatic : methM.isStatic = true := Cond.static_spec hnamed hmethM hstat
  obtain ⟨kP, hkP, -⟩ := className_of_methodNamed hnamed
  have hinitP : kP.init = .initialized := Cond.initialized_spec (findClass_of_methodNamed hnamed) hkP hinit
  obtain ⟨vm₁, X₁, hstep₁⟩ := X.invokestatic hexec hown hlink hnamed hmethM hstatic hkP hinitP hy (g := g) hg (argsL := argsL) (rest := rest) (hlen _ hsigM) hstack hdg
  rcases hK m meth c ⟨T.setVm vm₁, locs, cells, slots⟩ { g with stack := rest } (.invokestatic index) mk argsL.toArray X₁ hg hsize hdg hW (X₁.named hnamed) (hpre vm₁ X₁.warmed) with ⟨v, B, X', hpost, hsteps⟩ | ⟨q, B, X', hpost, hsteps⟩
  · exact Or.inl ⟨v, vm₁, B, X₁.warmed, X', hpost, fun target h => hstep₁ _ fun acts => by rw [doInvoke_state]; exact hsteps.trans h⟩
  · exact Or.inr ⟨q, vm₁, B, X₁.warmed, X', hpost, hstep₁ _ fun acts => by rw [doInvoke_state]; exact hsteps⟩
theorem vx_callVW (X : Stand p l e R s m args below meth c T locs cells slots) (hexec : p.tables.exec = Jvm.exec) {own C : String} {index : Nat} {y : MethodName} {bytes : ByteArray} {maxL : Nat} {ret : Option FieldType} {hh : List (Nat × Nat × Nat × Nat)}
    (hown : s.vm.findClass own = some m.cls) (hlink : (Cond.methodLink own index y).before args s = true) (hinst : (Cond.instanceMethod y).before args s = true) (hsel : (Cond.selects C y y).before args s = true)
    (hcode : (Cond.codeWith y bytes maxL ret hh).before args s = true) (hy : y.cls ≠ "java/lang/invoke/MethodHandle" ∧ y.cls ≠ "java/lang/invoke/VarHandle")
    {W9 : Nat} {Pre : Pt → Array Value → Prop} {Post : Pt → Array Value → Option Value → Pt → Prop} (hK : Back l R p e below s args y 3 W9 Pre Post)
    {b : Addr} {cellB : Cell} (hcell : T.heap[b]? = some cellB) (hobj : cellB.vm.isStatics = false) (hcls : s.vm.findClass C = some cellB.cls)
    {g : JFrame} (hg : g.method = m) (hsize : g.locals.size = c.maxLocals) {argsL rest : List Value} (hlen : ∀ sig, parseMethodDescriptor y.desc = some sig → argsL.length = sig.parameters.length)
    (hstack : g.stack = argsL.reverse ++ .ref b :: rest) (hW : 2 * g.monitorRoom + (rest.map fun v => v.category).sum ≤ W9) (hdg : decode c.code g.pc = .ok (.invokevirtual index, 3))
    (hpre : ∀ vm₁, s.WarmedH vm₁ → Pre ⟨T.setVm vm₁, locs, cells, slots⟩ (Value.ref b :: argsL).toArray) :
    ∃ (v : Option Value) (vm₁ : Vm) (B : Pt), s.WarmedH vm₁ ∧ Stand p l e R s m args below meth c B.U B.locs B.cells B.slots ∧ Post ⟨T.setVm vm₁, locs, cells, slots⟩ (Value.ref b :: argsL).toArray v B ∧
      ∀ target, Steps p.tables e below (B.U.setTop { g with pc := g.pc + 3, stack := v.toList ++ rest }) target → Steps p.tables e below (T.setTop g) target := by
  obtain ⟨mk, methM, hnamed, hmethM, hstM, habM⟩ := Cond.instanceMethod_spec hinst
  obtain ⟨m8, methM', cM, hn8, hmethM', -, -, -, -, -, -, hsigM⟩ := Cond.codeWith_spec hcode
  cases Option.some.inj (hn8.symm.trans hnamed)
  cases hmethM.symm.trans hmethM'
  obtain ⟨c2, r2, m2, q1, q2, q3, q4, kP, hkP, hkPi⟩ := Cond.selects_spec hsel
  cases hcls.symm.trans q1
  cases (State.methodFound?_of_named hnamed hy).symm.trans q2
  cases hnamed.symm.trans q3
  have hselP : selectMethod e.platform s.vm cellB.cls mk = .method mk := by rw [Launch.admits_selectMethod X.admits]; exact q4
  obtain ⟨vm₁, X₁, hstep₁⟩ := X.invokevirtual hexec hown hlink hnamed hmethM hstM hkP hkPi hy (a := b) (cell := cellB) hcell
    (fun z h => by rw [h] at hobj; cases hobj) hselP hmethM habM hkP hkPi (g := g) hg (argsL := argsL) (rest := rest) (hlen _ hsigM) hstack hdg
  obtain ⟨v, B, X', hpost, hsteps⟩ := hK m meth c ⟨T.setVm vm₁, locs, cells, slots⟩ { g with stack := rest } (.invokevirtual index) mk (Value.ref b :: argsL).toArray X₁ hg hsize hdg hW (X₁.named hnamed) (hpre vm₁ X₁.warmed)
  exact ⟨v, vm₁, B, X₁.warmed, X', hpost, fun target h => hstep₁ _ fun acts => by rw [doInvoke_state]; exact hsteps.trans h⟩
abbrev vx_CVW (R : Room) (s : State) (args : Array Value) (own C : String) (index : Nat) (y : MethodName) (bytes : ByteArray) (maxL : Nat) (ret : Option FieldType) (hh : List (Nat × Nat × Nat × Nat)) (ws : List Cond) (rm : Room) (mc ms n : Nat) : Prop :=
  (rm.cells = mc ∧ rm.slots = ms ∧ rm.frames + 1 ≤ R.frames ∧ 8 + (maxL + 11) + rm.locals ≤ R.locals ∧ (∀ w ∈ ws, ∀ (a' : Array Value) (U : State), s.WarmedH U.vm → w.before a' U = true) ∧ Cond.codeWith y bytes maxL ret hh ∈ ws) ∧
  (Cond.codeWith y bytes maxL ret hh).before args s = true ∧ (Cond.initialized y.cls).before args s = true ∧ (y.cls ≠ "java/lang/invoke/MethodHandle" ∧ y.cls ≠ "java/lang/invoke/VarHandle") ∧
  (∀ sig, parseMethodDescriptor y.desc = some sig → n = sig.parameters.length) ∧ (Cond.methodLink own index y).before args s = true ∧ (Cond.instanceMethod y).before args s = true ∧ (Cond.selects C y y).before args s = true
theorem vx_cwVW {own C : String} {index maxL mc ms : Nat} {y : MethodName} {bytes : ByteArray} {ret : Option FieldType} {hh : List (Nat × Nat × Nat × Nat)} {Ts ws ws' : List Cond} {rm : Room} (n : Nat) (ht : ∀ w ∈ Ts, w.before args s = true) (hT : GoodIn Ts (wsV own index C y ws)) (hw : ws = Cond.codeWith y bytes maxL ret hh :: ws') (hrc : rm.cells = mc) (hrs : rm.slots = ms)
    (hd : y.cls = C ∧ y.cls ≠ "java/lang/invoke/MethodHandle" ∧ y.cls ≠ "java/lang/invoke/VarHandle" ∧ (parseMethodDescriptor y.desc).map (fun d => d.parameters.length) = some n) (hR : rm.frames + 1 ≤ R.frames ∧ 8 + (maxL + 11) + rm.locals ≤ R.locals) :
    vx_CVW R s args own C index y bytes maxL ret hh ws rm mc ms n := by
  obtain ⟨hC, hd⟩ := hd
  subst hC
  have ok : ∀ w ∈ wsV own index y.cls y ws, w.before args s = true := fun w h => ht w (hT w h).1
  have hG : GoodIn Ts ws := fun w h => hT w (by unfold wsV; exact List.mem_append_right _ h)
  have hc : Cond.codeWith y bytes maxL ret hh ∈ ws := by rw [hw]; exact List.mem_cons_self
  refine ⟨⟨hrc, hrs, hR.1, hR.2, pay_in ht hG, hc⟩, ht _ (hG _ hc).1, ok _ (by simp [wsV]), ⟨hd.1, hd.2.1⟩, fun sig h => ?_, ok _ (by simp [wsV]), ok _ (by simp [wsV]), ok _ (by simp [wsV])⟩
  have h2 := hd.2.2
  rw [h] at h2
  exact (Option.some.inj h2).symm
theorem vx_runVW {y : MethodName} {bytes cc : ByteArray} {maxL nL mc ms n index : Nat} {ret : Option FieldType} {hh : List (Nat × Nat × Nat × Nat)} {ws : List Cond} {rm : Room} {Pc : Array Value → State → Prop} {Qc : Array Value → State → Outcome → State → Prop} {free : Addr → Prop} {Ts : List Cond} {own C : String} {b : Addr} {As rest : List Value} {g : JFrame}
    (S : CallFix p m c cc nL s args Ts own) (hM : Met l y ws rm Pc Qc mc ms free) (cw : vx_CVW R s args own C index y bytes maxL ret hh ws rm mc ms n) (hp : PreV s H C b Pc As)
    (hg : g.method = m) (hn : As.length = n) (hsize : g.locals.size = nL) (hstack : g.stack = As.reverse ++ .ref b :: rest) (hW : 2 * g.monitorRoom + (rest.map fun v => v.category).sum ≤ 8) (hdg : decode cc g.pc = .ok (.invokevirtual index, 3)) (hf : cells + mc ≤ R.cells ∧ slots + ms ≤ R.slots) :
    va_Run p l e R s m args below meth c H locs cells slots mc ms g rest (Qc (Value.ref b :: As).toArray) free := by
  obtain ⟨⟨hrc, hrs, hfr, hlo, hws, hcw⟩, hcode, hini, hy, hlen, hl, hin, hse⟩ := cw
  have hK : Back l R p e below s args y 3 8 (PreOf R mc ms Pc) (PostOf Qc mc ms free) := va_backW (hh := hh) (bytes := bytes) (maxL := maxL) (ret := ret) hM hp.1 hrc hrs hfr hlo hws hcw (fun a' U hW => word_at hW (Or.inl (by first | rfl | simp [Cond.onTables, Cond.keeps, Cond.steady])) hini)
  obtain ⟨hx, hb, hml, ho, -⟩ := S
  obtain ⟨-, ⟨cellB, hcB, hoB, hclB⟩, hPc⟩ := hp
  intro T hT X
  obtain ⟨v, vm₁, ⟨U', l2, c2, s2⟩, hW₁, X', ⟨g', mk, t, L, e1, e2, hq, h1, hL, h2, h3⟩, st⟩ := vx_callVW X hx (C := C) (hh := hh) (bytes := bytes) (maxL := maxL) (ret := ret) ho hl hin hse hcode hy hK (by rw [hT]; exact hcB) hoB hclB hg (hsize.trans hml.symm) (argsL := As) (rest := rest) (fun sig h => hn.trans (hlen sig h)) hstack hW (by rw [hb]; exact hdg)
    (fun vm₁ hW₁ => ⟨hf.1, hf.2, hPc (T.setVm vm₁) hT hW₁⟩)
  dsimp only [Pt.U, Pt.locs, Pt.cells, Pt.slots] at X' e1 e2 h1 h2 h3 st
  subst h1; subst h2; subst h3
  exact ⟨v, (T.setVm vm₁).calling g' mk (Value.ref b :: As).toArray, t, U', L, hT, X', hL, e1, e2, hq, st⟩
section
variable {y : MethodName} {bytes cc : ByteArray} {maxL nL mc ms n index : Nat} {ret : Option FieldType} {ws : List Cond} {rm : Room} {Pc : Array Value → State → Prop} {Qc : Array Value → State → Outcome → State → Prop} {XC : String → State → State → Prop} {free : Addr → Prop} {Ts : List Cond} {own C : String} {b : Addr} {As rest : List Value} {g : JFrame}
theorem vx_runVX {hh : List (Nat × Nat × Nat × Nat)} (S : CallFix p m c cc nL s args Ts own) (hM : vx_Met l y ws rm Pc Qc XC mc ms free) (cw : vx_CVW R s args own C index y bytes maxL ret hh ws rm mc ms n) (hp : PreV s H C b Pc As)
    (hg : g.method = m) (hn : As.length = n) (hsize : g.locals.size = nL) (hstack : g.stack = As.reverse ++ .ref b :: rest) (hW : 2 * g.monitorRoom + (rest.map fun v => v.category).sum ≤ 8) (hdg : decode cc g.pc = .ok (.invokevirtual index, 3)) (hf : cells + mc ≤ R.cells ∧ slots + ms ≤ R.slots) :
    vx_Run p l e R s m args below meth c H locs cells slots mc ms g rest (Qc (Value.ref b :: As).toArray) XC free := by
  obtain ⟨⟨hrc, hrs, hfr, hlo, hws, hcw⟩, hcode, hini, hy, hlen, hl, hin, hse⟩ := cw
  have hK : vx_Back l R p e below s args y 3 8 (PreOf R mc ms Pc) (PostOf Qc mc ms free) (vx_Post XC mc ms free) := vx_backW (hh := hh) (bytes := bytes) (maxL := maxL) (ret := ret) hM hp.1 hrc hrs hfr hlo hws hcw (fun a' U hW => word_at hW (Or.inl (by first | rfl | simp [Cond.onTables, Cond.keeps, Cond.steady])) hini)
  obtain ⟨hx, hb, hml, ho, -⟩ := S
  obtain ⟨-, ⟨cellB, hcB, hoB, hclB⟩, hPc⟩ := hp
  intro T hT X
  rcases vx_callVX X hx (C := C) (hh := hh) (bytes := bytes) (maxL := maxL) (ret := ret) ho hl hin hse hcode hy hK (by rw [hT]; exact hcB) hoB hclB hg (hsize.trans hml.symm) (argsL := As) (rest := rest) (fun sig h => hn.trans (hlen sig h)) hstack hW (by rw [hb]; exact hdg)
    (fun vm₁ hW₁ => ⟨hf.1, hf.2, hPc (T.setVm vm₁) hT hW₁⟩) with ⟨v, vm₁, ⟨U', l2, c2, s2⟩, hW₁, X', ⟨g', mk, t, L, e1, e2, hq, h1, hL, h2, h3⟩, st⟩ | ⟨q, vm₁, ⟨U', l2, c2, s2⟩, hW₁, X', ⟨g', mk, t, L, E, ce, e1, e2, hq, hce, hcv, hcl, h1, hL, h2, h3⟩, st⟩
  · dsimp only [Pt.U, Pt.locs, Pt.cells, Pt.slots] at X' e1 e2 h1 h2 h3 st
    subst h1; subst h2; subst h3
    exact Or.inl ⟨v, (T.setVm vm₁).calling g' mk (Value.ref b :: As).toArray, t, U', L, hT, X', hL, e1, e2, hq, st⟩
  · dsimp only [Pt.U, Pt.locs, Pt.cells, Pt.slots] at X' e1 e2 h1 h2 h3 st hcl
    subst h1; subst h2; subst h3
    exact Or.inr ⟨q, (T.setVm vm₁).calling g' mk (Value.ref b :: As).toArray, t, U', L, E, ce, hT, X', hL, e1, e2, hq, hce, hcv, vx_cls hW₁ hcl, st⟩
theorem vx_runSX {hh : List (Nat × Nat × Nat × Nat)} (S : CallFix p m c cc nL s args Ts own) (hM : vx_Met l y ws rm Pc Qc XC mc ms free) (cw : vx_CSW R s args own index y bytes maxL ret hh ws rm mc ms n) (hp : PreS s H Pc As)
    (hg : g.method = m) (hn : As.length = n) (hsize : g.locals.size = nL) (hstack : g.stack = As.reverse ++ rest) (hW : 2 * g.monitorRoom + (rest.map fun v => v.category).sum ≤ 8) (hdg : decode cc g.pc = .ok (.invokestatic index, 3)) (hf : cells + mc ≤ R.cells ∧ slots + ms ≤ R.slots) :
    vx_Run p l e R s m args below meth c H locs cells slots mc ms g rest (Qc As.toArray) XC free := by
  obtain ⟨⟨hrc, hrs, hfr, hlo, hws, hcw⟩, hcode, hini, hy, hlen, hl, hstt⟩ := cw
  have hK : vx_Back l R p e below s args y 3 8 (PreOf R mc ms Pc) (PostOf Qc mc ms free) (vx_Post XC mc ms free) := vx_backW (hh := hh) (bytes := bytes) (maxL := maxL) (ret := ret) hM hp.1 hrc hrs hfr hlo hws hcw (fun a' U hW => word_at hW (Or.inl (by first | rfl | simp [Cond.onTables, Cond.keeps, Cond.steady])) hini)
  obtain ⟨hx, hb, hml, ho, -⟩ := S
  intro T hT X
  rcases vx_callSX X hx (hh := hh) (bytes := bytes) (maxL := maxL) (ret := ret) ho hl hstt hini hcode hy hK hg (hsize.trans hml.symm) (argsL := As) (rest := rest) (fun sig h => hn.trans (hlen sig h)) hstack hW (by rw [hb]; exact hdg)
    (fun vm₁ hW₁ => ⟨hf.1, hf.2, hp.2 (T.setVm vm₁) hT hW₁⟩) with ⟨v, vm₁, ⟨U', l2, c2, s2⟩, hW₁, X', ⟨g', mk, t, L, e1, e2, hq, h1, hL, h2, h3⟩, st⟩ | ⟨q, vm₁, ⟨U', l2, c2, s2⟩, hW₁, X', ⟨g', mk, t, L, E, ce, e1, e2, hq, hce, hcv, hcl, h1, hL, h2, h3⟩, st⟩
  · dsimp only [Pt.U, Pt.locs, Pt.cells, Pt.slots] at X' e1 e2 h1 h2 h3 st
    subst h1; subst h2; subst h3
    exact Or.inl ⟨v, (T.setVm vm₁).calling g' mk As.toArray, t, U', L, hT, X', hL, e1, e2, hq, st⟩
  · dsimp only [Pt.U, Pt.locs, Pt.cells, Pt.slots] at X' e1 e2 h1 h2 h3 st hcl
    subst h1; subst h2; subst h3
    exact Or.inr ⟨q, (T.setVm vm₁).calling g' mk As.toArray, t, U', L, E, ce, hT, X', hL, e1, e2, hq, hce, hcv, vx_cls hW₁ hcl, st⟩
end
end VXH
theorem vx_ofWH {l : Launch} {y : MethodName} {ws ws' : List Cond} {rm : Room} {Pc : Array Value → State → Prop} {Qc : Array Value → State → Outcome → State → Prop} {XC : String → State → State → Prop} {mc ms : Nat} {free : Addr → Prop} {cc : ByteArray} {maxL : Nat} {ret : Option FieldType} {hh : List (Nat × Nat × Nat × Nat)}
    (hy : plainName y.cls = true) (hw : ws = Cond.codeWith y cc maxL ret hh :: ws')
    (body : ∀ p e s m args below meth c s₁, BodyLoose p l y (headSpec ws rm) cc maxL ret e s m args below meth c s₁ → c.maxLocals = maxL → Pc args s →
      W p l e (headSpec ws rm).room s m args below meth c s.heap [] 0 0 (vx_MQ below Qc XC args s mc ms free) (entryFrame m args maxL)) : vx_Met l y ws rm Pc Qc XC mc ms free := by
  refine MetFree.of_bodyS (code := cc) (maxLocals := maxL) (ret := ret) hy ?_ ?_
  · intro args s m h hn
    obtain ⟨m9, meth, c, hn9, h1, h2, h3, h4, -, h5, h6, -⟩ := Cond.codeWith_spec (atoms_spec (ws := ws) h _ (by rw [hw]; exact List.mem_cons_self))
    cases hn.symm.trans hn9
    exact ⟨meth, c, h1, h2, h3, h4, h5, h6⟩
  · intro p e s m args below meth c s₁ B hml hP _
    have hh0 : s₁.heap = s.heap := by rw [B.state]; rfl
    obtain ⟨t, a1, o, b1, b2, b3⟩ := body p e s m args below meth c s₁ B hml hP s₁ hh0 (Stand.of_body B)
    exact ⟨t, o, a1, b1, b2, b3⟩
/-! ===== END ===== -/
/-! ===== BEGIN what the machine throws by itself, no traces kept ===== -/
section VXM
set_option maxHeartbeats 1000000 in
/-- the machine throws cls with the message text, no traces kept: from its note over the frame g to 'throwing' over the same frame (follows the proofs of Stand.vmThrowsMessage, Shelf/KitTracedVmS.lean, and Stand.throwsMessageColdBareV, StandMessageColdV.lean, without the step out of the frame) -/
theorem vx_vmAt {p : Program} {l : Launch} {e : Env} {R : Room} {s : State} {m₀ : MethodId} {args : Array Value} {below : List Frame} {meth : Method} {c : Code} {W : State} {locs : List Loc} {cells slots : Nat}
    (X : Stand p l e R s m₀ args below meth c W locs cells slots) (hexec : p.tables.exec = Jvm.exec) (htr : e.platform.stackTraces = false) {cls : String} {names : List String} {text : String}
    (hcls : Bundle.fit cls = true) (hnames : ∀ n ∈ names, Bundle.fit n = true) (hsoe : (cls == "java/lang/StackOverflowError") = false) (hoom : (cls == "java/lang/OutOfMemoryError") = false)
    (h : ∀ a ∈ Bundle.messageArmAtoms cls names, a.before args s = true)
    (hlocs : ∀ x ∈ locs, ∀ cell, s.heap[x.base]? = some cell → cell.vm.isStatics = false)
    (htext : (text == notModelled) = false) (hlimit : ¬ (stringBytes (stringToUtf16 text)).size > e.platform.arrayLengthLimit) (hheap : ¬ (stringBytes (stringToUtf16 text)).size * componentBytes .byte > e.platform.maxHeapBytes)
    {g : JFrame} (hg : g.method = m₀) (hsize : g.locals.size = c.maxLocals)
    (hRframes : names.length + 4 < R.frames) (hRlocals : 2 * g.monitorRoom + (g.stack.map fun v => v.category).sum + 10240 ≤ R.locals) (hshort : 13 * names.length + 55 ≤ 10240)
    (hRcells : cells + 3 ≤ R.cells) (hRslots : slots + ((stringBytes (stringToUtf16 text)).size + 4 + 6) ≤ R.slots) (hlocks : meth.locks = false) :
    ∃ (S : State) (q : Addr) (ce : Cell), (∀ target, Steps p.tables e below ((S.setTop g).pushFrame (.throwing q)) target → Steps p.tables e below ((W.setTop g).pushFrame (.throwNew cls (some text) none)) target) ∧
      Stand p l e R s m₀ args below meth c S locs (cells + 3) (slots + ((stringBytes (stringToUtf16 text)).size + 4 + 6)) ∧ S.heap[q]? = some ce ∧ s.vm.findClass cls = some ce.cls ∧ ce.vm = .none := by
  have howns : e.platform.frameOwnsMonitors = true := by rw [X.admits.platform]
  have hfin : e.platform.finalization = false := by rw [X.admits.platform]
  have hpl : e.platform.magicAccessors = ({} : Platform).magicAccessors := by rw [X.admits.platform]
  have a : ∀ x, x ∈ Bundle.messageArmAtoms cls names → x.holds args s none s [] = true := fun x hx => h x hx
  obtain ⟨T, Z0, L, -, Y⟩ := ThrowableC.of_atoms (args := args) howns hfin hpl (fun x hx => h x (by simp [Bundle.messageArmAtoms, hx]))
  obtain ⟨Z, M, LZ, LM, hnZ⟩ := Init0T.ofS_atoms (args := args) hpl L Y (fun x hx => h x (by simp [Bundle.messageArmAtoms, hx]))
  obtain ⟨P1, Ps, hlen, L1, hL, hP1m, hlink1, hlink⟩ := Bundle.chainS (args := args) hpl hnZ names cls hcls hnames (fun x hx => h x (by simp [Bundle.messageArmAtoms, hx]))
  obtain ⟨Zs, LZs, hn4, hfitv, hfitc⟩ := StringT.of_atoms (args := args) (fun x hx => h x (by simp [Bundle.messageArmAtoms, hx]))
  have hfound : s.vm.findClass cls = some P1.m.cls := findClass_of_methodNamed hP1m
  obtain ⟨c1, kX, hc1, hk, hord, -, -, hn6⟩ := Cond.instantiable_spec (a (.instantiable cls 6) (by simp [Bundle.messageArmAtoms]))
  cases Option.some.inj (hc1.symm.trans hfound)
  have hinit := Cond.initialized_spec hfound hk (a (.initialized cls) (by simp [Bundle.messageArmAtoms]))
  have hctor : kX.findMethod "<init>" "(Ljava/lang/String;)V" = some P1.m.idx := findMethod_of_methodNamed hP1m hk
  have hsel0 : selectMethod e.platform s.vm P1.m.cls T.fill0 = .method T.fill0 := by
    obtain ⟨c2, r2, m2, q1, q2, q3, q4, -⟩ := Cond.selects_spec (a (.selects cls Bundle.tFill0 Bundle.tFill0) (by simp [Bundle.messageArmAtoms]))
    cases Option.some.inj (q1.symm.trans hfound)
    cases Option.some.inj (q2.symm.trans (State.methodFound?_of_named Y.fill0 (by decide)))
    cases Option.some.inj (q3.symm.trans Y.fill0)
    rw [Launch.admits_selectMethod X.admits]; exact q4
  have hselF : selectMethod e.platform s.vm P1.m.cls T.fill = .method T.fill := by
    obtain ⟨c2, r2, m2, q1, q2, q3, q4, -⟩ := Cond.selects_spec (a (.selects cls Bundle.tFill Bundle.tFill) (by simp [Bundle.messageArmAtoms]))
    cases Option.some.inj (q1.symm.trans hfound)
    cases Option.some.inj (q2.symm.trans (State.methodFound?_of_named Y.fill (by decide)))
    cases Option.some.inj (q3.symm.trans Y.fill)
    rw [Launch.admits_selectMethod X.admits]; exact q4
  obtain ⟨cellS0, hcS0, hiss⟩ := Y.statics
  obtain ⟨u0, hu0⟩ := Cond.staticRefV Y.unassigned L.unassignedStatic L.statics hcS0 hiss (a (.isRef (.static Bundle.tN "UNASSIGNED_STACK" Bundle.steD)) (by simp [Bundle.messageArmAtoms]))
  obtain ⟨sen, hsen⟩ := Cond.staticRefV Y.sentinel L.sentinelStatic L.statics hcS0 hiss (a (.isRef (.static Bundle.tN "SUPPRESSED_SENTINEL" Bundle.listD)) (by simp [Bundle.messageArmAtoms]))
  obtain ⟨ci198, i198, fB, hk198, hg198, ha198, hsB, -, hnB, htB, hffB⟩ := Cond.ownField (t := .object "java/lang/Object") Y.found L.cls (by decide +kernel) (a (.fieldLink Bundle.tN 198 Bundle.tN "backtrace" "Ljava/lang/Object;") (by simp [Bundle.messageArmAtoms])) (a (.lays Bundle.tN Bundle.tN "backtrace" "Ljava/lang/Object;") (by simp [Bundle.messageArmAtoms])) e.platform hpl
  obtain ⟨cellS, hcS', heS, -, hkeep⟩ := X.same.2.2.2.2.2 T.aS cellS0 hcS0
  have hcellS : W.heap[T.aS]? = some cellS := hcS'
  have hout' : ∀ i, (⟨T.aS, i⟩ : Loc) ∉ locs := fun i hmem => by
    have := hlocs _ hmem cellS0 hcS0
    rw [hiss] at this; cases this
  have hknownS : cellS.vm ≠ .unknown := by
    rw [heS]; intro hu
    rw [show cellS0.vm = .unknown from hu] at hiss
    cases hiss
  have hvU : cellS.slots[T.fUnassigned.slot]? = some u0.v := by rw [hkeep _ (hout' _)]; exact hu0
  have hvSen : cellS.slots[T.fSentinel.slot]? = some sen.v := by rw [hkeep _ (hout' _)]; exact hsen
  obtain ⟨iM, hffM⟩ := Y.msg
  obtain ⟨tyC, dC, hdC, hdnC⟩ := Cond.laysAt hfound hk Y.cause (a (.lays cls Bundle.tN "cause" "Ljava/lang/Throwable;") (by simp [Bundle.messageArmAtoms]))
  obtain ⟨tyS, dS, hdS, hdnS⟩ := Cond.laysAt hfound hk Y.stack (a (.lays cls Bundle.tN "stackTrace" Bundle.steD) (by simp [Bundle.messageArmAtoms]))
  obtain ⟨tyP, dP, hdP, hdnP⟩ := Cond.laysAt hfound hk Y.supp (a (.lays cls Bundle.tN "suppressedExceptions" Bundle.listD) (by simp [Bundle.messageArmAtoms]))
  obtain ⟨tyM, dM, hdM, hdnM⟩ := Cond.laysAt hfound hk hffM (a (.lays cls Bundle.tN "detailMessage" "Ljava/lang/String;") (by simp [Bundle.messageArmAtoms]))
  obtain ⟨tyB, dB, hdB, hdnB⟩ := Cond.laysAt hfound hk hffB (a (.lays cls Bundle.tN "backtrace" "Ljava/lang/Object;") (by simp [Bundle.messageArmAtoms]))
  have bC := Cond.laysApart hdB hdC hdnB hdnC (by rw [hnB, Y.causeName]; decide)
  have bS := Cond.laysApart hdB hdS hdnB hdnS (by rw [hnB, Y.stackName]; decide)
  have bP := Cond.laysApart hdB hdP hdnB hdnP (by rw [hnB, Y.suppName]; decide)
  have hbk : ((preparedCellV T.toThrowableT (freshCell P1.m.cls kX) (W.heap.size + 2) u0 sen).withEntry W.cur).slots[fB.slot]? = some .null := by
    have := fresh_default (c := P1.m.cls) tyB
    rw [htB] at this
    simpa [preparedCellV, Cell.setSlot, Cell.withEntry, Array.getElem?_setIfInBounds, bC, bS, bP, bC.symm, bS.symm, bP.symm, defaultValue] using this
  have tkC := Takes.of_laid (v := .ref (W.heap.size + 2)) hk hord tyC (by rw [Y.causeType]; rfl)
  have tkS := Takes.of_laid (v := u0.v) hk hord tyS (by rw [Y.stackType]; exact fits_refV_array _ u0)
  have tkP := Takes.of_laid (v := sen.v) hk hord tyP (by rw [Y.suppType]; exact fits_refV_object _ sen)
  have tkM := Takes.of_laid (v := .ref (W.heap.size + 1)) hk hord tyM (by rw [Y.msgType]; rfl)
  have hskip : SkipFacts T e.platform s (fun u => u) u0 ((preparedCellV T.toThrowableT (freshCell P1.m.cls kX) (W.heap.size + 2) u0 sen).withEntry W.cur) := ⟨{ ci198 := ci198, i198 := i198, fBack := fB }, ⟨hk198, hg198, ha198, hsB⟩, hbk, fun _ _ => rfl⟩
  have h0 : At W g.method c below := by rw [hg]; exact X.here
  obtain ⟨hbeyond, hfreeW⟩ := X.vmMayThrow hsize (.throwNew cls (some text) none) (fun f hf => by cases hf) rfl hRlocals
  have hfr' : W.frames.length + Ps.length + 4 < (e.platform.stackLimits W.me).1 := by have := X.framesAbove hRframes; omega
  have hwd' : (stackUse (.java g :: W.frames.tail)).2 + 13 * Ps.length + 55 ≤ (e.platform.stackLimits W.me).2 := by have := X.stackAbove hsize (K := 13 * Ps.length + 55) (by omega); omega
  have hslots : W.slotsUsed + (stringBytes (stringToUtf16 text)).size + Zs.kS.instanceTypes.size + kX.instanceTypes.size ≤ e.platform.maxSlots := by
    have := X.slotsAbove hRslots
    rw [hn4, hn6]
    omega
  obtain ⟨vm', hW', st⟩ := Steps.vmThrowsMessageColdByV p (s₀ := s) (S := W) (g := g) h0 hexec T L Z LZ M LM X.warmed (t := W.cur) rfl Zs LZs P1 L1 Ps hL hlink1 hlink hsoe hoom hfound hk hinit hord hctor
    (Launch.admits_hotImplicitExceptions X.admits) hbeyond hfreeW htext hlimit hheap (X.cellsAbove hRcells) hslots (hfitv _) (hfitc _)
    (Nn := fun u => u) heapOnly_id (fun _ _ => rfl) (fun _ => rfl) (fun u x y => setCell_twice _ _ _ _) (fun _ => Nat.le_refl _) (cN := ((preparedCellV T.toThrowableT (freshCell P1.m.cls kX) (W.heap.size + 2) u0 sen).withEntry W.cur))
    hsel0 hcellS hknownS hvU tkS (fun _ hu => hu) (fun _ hu => hu) rfl rfl rfl (by simp [preparedCellV, Cell.setSlot, Cell.withEntry]) hskip (fun _ _ hA hW _ hroom _ hrest => L.nativeOff p htr hA hW hroom hrest) hselF hvSen tkC tkP tkM Y.objLocals rfl hfr' hwd'
  rw [plainBareV_eq T.toThrowableT (W.heap.size + 2) u0 sen (.ref (W.heap.size + 1)) W.cur rfl rfl] at st
  obtain ⟨-, -, w3, w4, -, -, -⟩ := withThrown_facts e.platform W Zs text P1.m.cls kX
  have X3 := ((X.pushed (bytesOf Zs.cB (stringToUtf16 text))).pushed (stringAt Zs.cS Zs.kS Zs.fv Zs.fc (stringToUtf16 text) W.heap.size)).pushed (freshCell P1.m.cls kX)
  rw [← withString_eq] at X3
  have X4 := X3.noted hW'
  have ha : (W.heap.size + 2) < ((withThrown W Zs text P1.m.cls kX).setVm vm').heap.size := by show _ < (withThrown W Zs text P1.m.cls kX).heap.size; rw [w3]; omega
  have hcell : ((withThrown W Zs text P1.m.cls kX).setVm vm').heap[(W.heap.size + 2)]? = some (freshCell P1.m.cls kX) := w4
  have X5 := ((((X4.stored hcell T.fCause.slot (.ref (W.heap.size + 2))).storedAgain ha T.fStack.slot u0.v).storedAgain ha T.fSupp.slot sen.v).storedAgain ha T.fStack.slot u0.v).storedAgain ha T.fMsg.slot (.ref (W.heap.size + 1))
  obtain ⟨g₁, hfrM⟩ := X5.frames_eq
  have hU : ((((withThrown W Zs text P1.m.cls kX).setVm vm').setCell (W.heap.size + 2) (plainBareV T.toThrowableT (freshCell P1.m.cls kX) (W.heap.size + 2) u0 sen (.ref (W.heap.size + 1)))).setTop g).pushFrame (.throwing (W.heap.size + 2)) = (((withThrown W Zs text P1.m.cls kX).setVm vm').setCell (W.heap.size + 2) (plainBareV T.toThrowableT (freshCell P1.m.cls kX) (W.heap.size + 2) u0 sen (.ref (W.heap.size + 1)))).setFrames (.throwing (W.heap.size + 2) :: .java g :: below) := by
    rw [State.pushFrame, State.frames_setTop _ hfrM, State.setTop_of_frames _ hfrM, State.setFrames_setFrames]
  have b1 : (bytesOf Zs.cB (stringToUtf16 text)).slots.size = (stringBytes (stringToUtf16 text)).size := by
    rw [(Cell.writeAll_facts _ _).2.2]; simp [bytes0]
  have b2 : (stringAt Zs.cS Zs.kS Zs.fv Zs.fc (stringToUtf16 text) W.heap.size).slots.size = 4 := by simp [string0, Cell.setSlot, hn4]
  have b3 : (freshCell P1.m.cls kX).slots.size = 6 := by simp [hn6]
  rw [b1, b2, b3] at X5
  have e9 : slots + (stringBytes (stringToUtf16 text)).size + 4 + 6 = slots + ((stringBytes (stringToUtf16 text)).size + 4 + 6) := by omega
  rw [e9] at X5
  simp only [List.append_assoc, List.cons_append, List.nil_append] at X5
  refine ⟨((withThrown W Zs text P1.m.cls kX).setVm vm').setCell (W.heap.size + 2) (plainBareV T.toThrowableT (freshCell P1.m.cls kX) (W.heap.size + 2) u0 sen (.ref (W.heap.size + 1))), W.heap.size + 2, _, fun target ht => st _ (by rw [X.tail, ← hU]; exact ht),
    X5.forget (fun y hy => ?_), heapAt_setCell_self _ ha, hfound, rfl⟩
  simp only [List.mem_cons, List.not_mem_nil, or_false] at hy
  have hge : s.heap.size ≤ W.heap.size := X.same.2.1
  rcases hy with rfl | rfl | rfl | rfl | rfl <;> exact Nat.le_trans hge (Nat.le_add_right _ 2)
set_option maxHeartbeats 1000000 in
/-- the machine throws NullPointerException, no traces kept: from its note over the frame g to 'throwing' over the same frame (follows the proof of Stand.vmThrowsNpe, Shelf42/KT2.lean; throwsNpeColdBareVAt, Shelf42/NT91.lean, called) -/
theorem vx_npeAt {p : Program} {l : Launch} {e : Env} {R : Room} {s : State} {m₀ : MethodId} {args : Array Value} {below : List Frame} {meth : Method} {c : Code} {W : State} {locs : List Loc} {cells slots : Nat}
    (X : Stand p l e R s m₀ args below meth c W locs cells slots) (hexec : p.tables.exec = Jvm.exec) (htr : e.platform.stackTraces = false) {n : Nat}
    (h : ∀ a ∈ Bundle.npeArmAtoms n, a.before args s = true)
    (hlocs : ∀ x ∈ locs, ∀ cell, s.heap[x.base]? = some cell → cell.vm.isStatics = false)
    {g : JFrame} (hg : g.method = m₀) (hsize : g.locals.size = c.maxLocals)
    (hRframes : 7 < R.frames) (hRlocals : 2 * g.monitorRoom + (g.stack.map fun v => v.category).sum + 10240 ≤ R.locals)
    (hRcells : cells + 1 ≤ R.cells) (hRslots : slots + n ≤ R.slots) (hlocks : meth.locks = false) :
    ∃ (S : State) (q : Addr) (ce : Cell), (∀ target, Steps p.tables e below ((S.setTop g).pushFrame (.throwing q)) target → Steps p.tables e below ((W.setTop g).pushFrame (.throwNew "java/lang/NullPointerException" none none)) target) ∧
      Stand p l e R s m₀ args below meth c S locs (cells + 1) (slots + n) ∧ S.heap[q]? = some ce ∧ s.vm.findClass "java/lang/NullPointerException" = some ce.cls ∧ ce.vm = .none := by
  have howns : e.platform.frameOwnsMonitors = true := by rw [X.admits.platform]
  have hfin : e.platform.finalization = false := by rw [X.admits.platform]
  have hpl : e.platform.magicAccessors = ({} : Platform).magicAccessors := by rw [X.admits.platform]
  have hpl2 : e.platform.arrayCloneIsPublic = true := by rw [X.admits.platform]
  have a' : ∀ x, x ∈ Bundle.npeArmAtoms n → x.holds args s none s [] = true := fun x hx => h x hx
  obtain ⟨T, Z, L, LZ, Y⟩ := ThrowableC.of_atoms (args := args) howns hfin hpl (fun x hx => h x (by simp [Bundle.npeArmAtoms, hx]))
  obtain ⟨N, LN, hcN, hnNF, hordN, hffS⟩ := NpeC.of_atoms (args := args) hpl hpl2 L Y (fun x hx => h x (by simp [Bundle.npeArmAtoms, hx]))
  obtain ⟨P1, L1, hP1m, hP1s⟩ := PassC.of_atoms (args := args) (s := s) hpl (X := Bundle.nN) (Y := Bundle.rN) (by decide) (by decide) LibCode.NullPointerException.Init0.at_0 LibCode.NullPointerException.Init0.at_1 LibCode.NullPointerException.Init0.at_4 (fun x hx => h x (by simp [Bundle.npeArmAtoms, hx]))
  obtain ⟨PR, LR, hPRm, hPRs⟩ := PassC.of_atoms (args := args) (s := s) hpl (X := Bundle.rN) (Y := Bundle.eN) (by decide) (by decide) LibCode.RuntimeException.Init0.at_0 LibCode.RuntimeException.Init0.at_1 LibCode.RuntimeException.Init0.at_4 (fun x hx => h x (by simp [Bundle.npeArmAtoms, hx]))
  obtain ⟨PE, LEx, hPEm, hPEs⟩ := PassC.of_atoms (args := args) (s := s) hpl (X := Bundle.eN) (Y := Bundle.tN) (by decide) (by decide) LibCode.Exception.Init0.at_0 LibCode.Exception.Init0.at_1 LibCode.Exception.Init0.at_4 (fun x hx => h x (by simp [Bundle.npeArmAtoms, hx]))
  have hfound : s.vm.findClass Bundle.nN = some P1.m.cls := findClass_of_methodNamed hP1m
  have ecls : N.cN = P1.m.cls := Option.some.inj (hcN.symm.trans hfound)
  have hk : s.vm.classes[P1.m.cls]? = some N.kN := by rw [← ecls]; exact LN.cls
  have hinit := Cond.initialized_spec hfound hk (a' (.initialized Bundle.nN) (by simp [Bundle.npeArmAtoms]))
  have hctor : N.kN.findMethod "<init>" "()V" = some P1.m.idx := findMethod_of_methodNamed hP1m hk
  obtain ⟨c1, k1, hc1, hk1, -, -, -, hn⟩ := Cond.instantiable_spec (a' (.instantiable Bundle.nN n) (by simp [Bundle.npeArmAtoms]))
  cases Option.some.inj (hc1.symm.trans hfound)
  cases Option.some.inj (hk1.symm.trans hk)
  have hfsz : (freshCell P1.m.cls N.kN).slots.size = n := by simp [hn]
  have hlink1 : P1.sup = PR.m := Option.some.inj (hP1s.symm.trans hPRm)
  have hlinkR : PR.sup = PE.m := Option.some.inj (hPRs.symm.trans hPEm)
  have hlinkE : PE.sup = Z.m T.toThrowableT := Option.some.inj (hPEs.symm.trans Y.init0)
  have hLs : ∀ P, P ∈ [PR, PE] → P.Links0 e.platform s := fun P hP => by
    simp only [List.mem_cons, List.not_mem_nil, or_false] at hP
    rcases hP with rfl | rfl
    · exact LR
    · exact LEx
  have hsel0 : selectMethod e.platform s.vm P1.m.cls T.fill0 = .method T.fill0 := by
    obtain ⟨c2, r2, m2, q1, q2, q3, q4, -⟩ := Cond.selects_spec (a' (.selects Bundle.nN Bundle.tFill0 Bundle.tFill0) (by simp [Bundle.npeArmAtoms]))
    cases Option.some.inj (q1.symm.trans hfound)
    cases Option.some.inj (q2.symm.trans (State.methodFound?_of_named Y.fill0 (by decide)))
    cases Option.some.inj (q3.symm.trans Y.fill0)
    rw [Launch.admits_selectMethod X.admits]; exact q4
  have hselF : selectMethod e.platform s.vm P1.m.cls T.fill = .method N.fill := by
    obtain ⟨c2, r2, m2, q1, q2, q3, q4, -⟩ := Cond.selects_spec (a' (.selects Bundle.nN Bundle.tFill Bundle.nFill) (by simp [Bundle.npeArmAtoms]))
    cases Option.some.inj (q1.symm.trans hfound)
    cases Option.some.inj (q2.symm.trans (State.methodFound?_of_named Y.fill (by decide)))
    cases Option.some.inj (q3.symm.trans hnNF)
    rw [Launch.admits_selectMethod X.admits]; exact q4
  obtain ⟨cellS0, hcS0, hiss⟩ := Y.statics
  obtain ⟨u0, hu0⟩ := Cond.staticRefV Y.unassigned L.unassignedStatic L.statics hcS0 hiss (a' (.isRef (.static Bundle.tN "UNASSIGNED_STACK" Bundle.steD)) (by simp [Bundle.npeArmAtoms]))
  obtain ⟨sen, hsen⟩ := Cond.staticRefV Y.sentinel L.sentinelStatic L.statics hcS0 hiss (a' (.isRef (.static Bundle.tN "SUPPRESSED_SENTINEL" Bundle.listD)) (by simp [Bundle.npeArmAtoms]))
  obtain ⟨ci198, i198, fB, hk198, hg198, ha198, hsB, -, hnB, htB, hffB⟩ := Cond.ownField (t := .object "java/lang/Object") Y.found L.cls (by decide +kernel) (a' (.fieldLink Bundle.tN 198 Bundle.tN "backtrace" Bundle.objD) (by simp [Bundle.npeArmAtoms])) (a' (.lays Bundle.tN Bundle.tN "backtrace" Bundle.objD) (by simp [Bundle.npeArmAtoms])) e.platform hpl
  obtain ⟨cellS, hcS', heS, -, hkeep⟩ := X.same.2.2.2.2.2 T.aS cellS0 hcS0
  have hcellS : W.heap[T.aS]? = some cellS := hcS'
  have hout' : ∀ i, (⟨T.aS, i⟩ : Loc) ∉ locs := fun i hmem => by
    have := hlocs _ hmem cellS0 hcS0
    rw [hiss] at this; cases this
  have hknownS : cellS.vm ≠ .unknown := by
    rw [heS]; intro hu
    rw [show cellS0.vm = .unknown from hu] at hiss
    cases hiss
  have hvU : cellS.slots[T.fUnassigned.slot]? = some u0.v := by rw [hkeep _ (hout' _)]; exact hu0
  have hvSen : cellS.slots[T.fSentinel.slot]? = some sen.v := by rw [hkeep _ (hout' _)]; exact hsen
  obtain ⟨tyC, dC, hdC, hdnC⟩ := Cond.laysAt hfound hk Y.cause (a' (.lays Bundle.nN Bundle.tN "cause" "Ljava/lang/Throwable;") (by simp [Bundle.npeArmAtoms]))
  obtain ⟨tyS, dS, hdS, hdnS⟩ := Cond.laysAt hfound hk Y.stack (a' (.lays Bundle.nN Bundle.tN "stackTrace" Bundle.steD) (by simp [Bundle.npeArmAtoms]))
  obtain ⟨tyP, dP, hdP, hdnP⟩ := Cond.laysAt hfound hk Y.supp (a' (.lays Bundle.nN Bundle.tN "suppressedExceptions" Bundle.listD) (by simp [Bundle.npeArmAtoms]))
  obtain ⟨tyX, dX, hdX, hdnX⟩ := Cond.laysAt hfound hk hffS (a' (.lays Bundle.nN Bundle.nN "extendedMessageState" "I") (by simp [Bundle.npeArmAtoms, Bundle.npeAtoms]))
  obtain ⟨hnX, htX⟩ := State.fieldFound?_type hffS (t := .int) (by decide +kernel)
  have xC := Cond.laysApart hdC hdX hdnC hdnX (by rw [hnX, Y.causeName]; decide)
  have xS := Cond.laysApart hdS hdX hdnS hdnX (by rw [hnX, Y.stackName]; decide)
  have xP := Cond.laysApart hdP hdX hdnP hdnX (by rw [hnX, Y.suppName]; decide)
  have hv0 : (freshCell P1.m.cls N.kN).slots[N.fState.slot]? = some (.int 0) := by
    have := fresh_default (c := P1.m.cls) tyX
    rw [htX] at this; exact this
  obtain ⟨tyB, dB, hdB, hdnB⟩ := Cond.laysAt hfound hk hffB (a' (.lays Bundle.nN Bundle.tN "backtrace" Bundle.objD) (by simp [Bundle.npeArmAtoms]))
  have bC := Cond.laysApart hdB hdC hdnB hdnC (by rw [hnB, Y.causeName]; decide)
  have bS := Cond.laysApart hdB hdS hdnB hdnS (by rw [hnB, Y.stackName]; decide)
  have bP := Cond.laysApart hdB hdP hdnB hdnP (by rw [hnB, Y.suppName]; decide)
  have bX := Cond.laysApart hdB hdX hdnB hdnX (by rw [hnB, hnX]; decide)
  have hbk : ((npeCell N.toNpeT (preparedCellV T.toThrowableT (freshCell P1.m.cls N.kN) W.heap.size u0 sen) W.cur).withEntry W.cur).slots[fB.slot]? = some .null := by
    have := fresh_default (c := P1.m.cls) tyB
    rw [htB] at this
    simpa [npeCell, preparedCellV, Cell.setSlot, Cell.withEntry, Array.getElem?_setIfInBounds, bC, bS, bP, bX, bC.symm, bS.symm, bP.symm, bX.symm, defaultValue] using this
  have tkC := Takes.of_laid (v := .ref W.heap.size) hk hordN tyC (by rw [Y.causeType]; rfl)
  have tkS := Takes.of_laid (v := u0.v) hk hordN tyS (by rw [Y.stackType]; exact fits_refV_array _ u0)
  have tkP := Takes.of_laid (v := sen.v) hk hordN tyP (by rw [Y.suppType]; exact fits_refV_object _ sen)
  have tkX := Takes.of_laid (v := .int 1) hk hordN tyX (by rw [htX]; rfl)
  have hskip : SkipFacts T e.platform s (fun u => u) u0 ((npeCell N.toNpeT (preparedCellV T.toThrowableT (freshCell P1.m.cls N.kN) W.heap.size u0 sen) W.cur).withEntry W.cur) := ⟨{ ci198 := ci198, i198 := i198, fBack := fB }, ⟨hk198, hg198, ha198, hsB⟩, hbk, fun _ _ => rfl⟩
  obtain ⟨vm', X3, st, -⟩ := X.throwsNpeColdBareVAt hexec hg hsize T L Z LZ N LN P1 L1 [PR, PE] hLs hlink1 ⟨hlinkR, hlinkE, trivial⟩ hfound hk hinit hordN hctor hsel0 hselF hcellS hknownS hvU hvSen
    hv0 xC xS xP tkC tkS tkP tkX Y.objLocals hskip (fun _ _ hA hW _ hroom _ hrest => L.nativeOff p htr hA hW hroom hrest) (by simpa using hRframes) hRlocals (by simp) hRcells (by rw [hn]; exact hRslots)
  have hlt : W.heap.size < ((W.pushCell (freshCell P1.m.cls N.kN)).setVm vm').heap.size := by
    show W.heap.size < (W.pushCell (freshCell P1.m.cls N.kN)).heap.size
    rw [State.heap_size_pushCell]; omega
  rw [hfsz] at X3
  obtain ⟨g₁, hfrM⟩ := X3.frames_eq
  have hU : ((((W.pushCell (freshCell P1.m.cls N.kN)).setVm vm').setCell W.heap.size (npeBareV T.toThrowableT N.toNpeT (freshCell P1.m.cls N.kN) W.heap.size u0 sen)).setTop g).pushFrame (.throwing W.heap.size) = (((W.pushCell (freshCell P1.m.cls N.kN)).setVm vm').setCell W.heap.size (npeBareV T.toThrowableT N.toNpeT (freshCell P1.m.cls N.kN) W.heap.size u0 sen)).setFrames (.throwing W.heap.size :: .java g :: below) := by
    rw [State.pushFrame, State.frames_setTop _ hfrM, State.setTop_of_frames _ hfrM, State.setFrames_setFrames]
  refine ⟨_, W.heap.size, _, fun target ht => st.trans (by rw [← hU]; exact ht), X3.forget (fun y hy => ?_), heapAt_setCell_self _ hlt, hfound, rfl⟩
  simp only [List.mem_cons, List.not_mem_nil, or_false] at hy
  have hge : s.heap.size ≤ W.heap.size := X.same.2.1
  rcases hy with rfl | rfl | rfl | rfl | rfl <;> exact hge
/-- the words of a machine's NullPointerException, but the four that speak of the heap -/
def vx_atN (n : Nat) : List Cond := (Bundle.npeArmAtoms n).filter vx_no
/-- the words of a machine's throw with a message, but the four that speak of the heap -/
def vx_atM (X : String) (names : List String) : List Cond := (Bundle.messageArmAtoms X names).filter vx_no
section
variable {p : Program} {l : Launch} {e : Env} {R : Room} {s : State} {m : MethodId} {args : Array Value} {below : List Frame} {meth : Method} {c : Code} {H : Heap} {locs : List Loc} {cells slots : Nat}
/-- a frame seen from a rebased start, seen from the first start again -/
theorem vx_back9 {T S : State} {R' : Room} {k n : Nat} (X : Stand p l e R s m args below meth c T locs cells slots) (Y : Stand p l e R' ((T.setVm s.vm).setFrames (.invoking m args :: below)) m args below meth c T [] 0 0) (Z : Stand p l e R' ((T.setVm s.vm).setFrames (.invoking m args :: below)) m args below meth c S [] k n) :
    Stand p l e R s m args below meth c S locs (cells + k) (slots + n) := by
  have hW0 : s.WarmedH ((T.setVm s.vm).setFrames (.invoking m args :: below)).vm := State.WarmedH.refl s
  refine { admits := X.admits, cas := X.cas, clock := X.clock, frames := X.frames, room := X.room, hears := X.hears, method := X.method, code := X.code, here := Z.here, tail := Z.tail, warmed := State.WarmedH.trans hW0 Z.warmed, limits := Z.limits.trans (Y.limits.symm.trans X.limits), bytes := Z.bytes.trans (Y.bytes.symm.trans X.bytes), same := ?_ }
  obtain ⟨e1, e2⟩ := Z.same
  rw [State.setFrames_setFrames] at e1
  have h2 : (T.setVm s.vm).sameButNew (S.setVm s.vm) [] k n := ⟨e1, e2⟩
  have h3 := X.same.trans h2
  rw [List.append_nil] at h3
  exact h3
/-- from the machine's note that E is thrown here with this text -/
def vx_Note (p : Program) (l : Launch) (e : Env) (R : Room) (s : State) (m : MethodId) (args : Array Value) (below : List Frame) (meth : Method) (c : Code) (H : Heap) (locs : List Loc) (cells slots : Nat) (Q : State → Prop) (g : JFrame) (E text : String) : Prop :=
  ∀ T : State, T.heap = H → Stand p l e R s m args below meth c T locs cells slots → ∃ t, Steps p.tables e below ((T.setTop g).pushFrame (.throwNew E (some text) none)) t ∧ Q t
theorem vx_vm {pc : Nat} {ls : Array Slot} {rest : List Value} {Q : State → Prop} (hexec : p.tables.exec = Jvm.exec) (hl : l.stackTraces = false) {cls text : String} {names : List String} {nb : Nat} {A : Nat → Prop}
    (hcls : Bundle.fit cls = true) (hnames : ∀ n ∈ names, Bundle.fit n = true) (hsoe : (cls == "java/lang/StackOverflowError") = false) (hoom : (cls == "java/lang/OutOfMemoryError") = false)
    (hat : ∀ w ∈ vx_atM cls names, w.before args s = true) (hgood : ∀ w ∈ vx_atM cls names, vx_ot w = true)
    (hU : vx_Zq Bundle.tN "UNASSIGNED_STACK" Bundle.steD A s s.heap) (hN : vx_Zq Bundle.tN "SUPPRESSED_SENTINEL" Bundle.listD A s s.heap) (hS : va_S A s.heap H locs) (hsize : ls.size = c.maxLocals)
    (htext : (text == notModelled) = false) (hnb : (stringBytes (stringToUtf16 text)).size ≤ nb) (hnb1 : nb ≤ 1000)
    (hRframes : names.length + 4 < R.frames) (hRlocals : (rest.map fun v => v.category).sum + 10240 ≤ R.locals) (hshort : 13 * names.length + 55 ≤ 10240) (hRcells : cells + 3 ≤ R.cells) (hRslots : slots + (nb + 10) ≤ R.slots) (hlocks : meth.locks = false)
    (k : ∀ (H1 : Heap) (q9 : Addr) (ce : Cell), H.size ≤ H1.size → (∀ q : Nat, q < H.size → H1[q]? = H[q]?) → va_S A s.heap H1 locs → H1[q9]? = some ce → ce.vm = .none → s.vm.findClass cls = some ce.cls → vx_W p l e R s m args below meth c H1 locs (cells + 3) (slots + (nb + 10)) Q (F0 m pc ls rest) q9) :
    vx_Note p l e R s m args below meth c H locs cells slots Q (F0 m pc ls rest) cls text := by
  intro T hT X
  have htr : e.platform.stackTraces = false := (show e.platform.stackTraces = l.stackTraces by rw [X.admits.platform]).trans hl
  have Y := vx_rebase X (R' := { frames := R.frames, locals := R.locals, cells := 3, slots := nb + 10 }) (Nat.le_refl _) (Nat.le_refl _) hRcells hRslots
  have hhp : ((T.setVm s.vm).setFrames (.invoking m args :: below)).heap = H := hT
  have hW0 : s.WarmedH ((T.setVm s.vm).setFrames (.invoking m args :: below)).vm := State.WarmedH.refl s
  have hat' : ∀ w ∈ vx_atM cls names, w.before args ((T.setVm s.vm).setFrames (.invoking m args :: below)) = true := fun w hw => vx_ot_at hW0 rfl (hgood w hw) (hat w hw)
  have hU' : vx_Zq Bundle.tN "UNASSIGNED_STACK" Bundle.steD A ((T.setVm s.vm).setFrames (.invoking m args :: below)) ((T.setVm s.vm).setFrames (.invoking m args :: below)).heap := by rw [hhp]; exact vx_Zq.moved hW0.alike (hU.kept hS.2.1)
  have hN' : vx_Zq Bundle.tN "SUPPRESSED_SENTINEL" Bundle.listD A ((T.setVm s.vm).setFrames (.invoking m args :: below)) ((T.setVm s.vm).setFrames (.invoking m args :: below)).heap := by rw [hhp]; exact vx_Zq.moved hW0.alike (hN.kept hS.2.1)
  obtain ⟨S, q, ce, st, Z, hce, hcl', hv⟩ := vx_vmAt Y hexec htr (cls := cls) (names := names) (text := text) hcls hnames hsoe hoom (vx_own hat' (vx_isRefq hU'.1) (vx_isRefq hN'.1) hU'.2.word hN'.2.word) (fun x hx => nomatch hx) htext
    (by rw [Launch.admits_arrayLengthLimit X.admits]; omega) (by rw [Launch.admits_maxHeapBytes X.admits]; simp only [componentBytes]; omega)
    (g := F0 m pc ls rest) rfl hsize hRframes (by show 2 * 0 + (rest.map fun v => v.category).sum + 10240 ≤ R.locals; omega) hshort (by show 0 + 3 ≤ 3; omega) (by show 0 + (_ + 4 + 6) ≤ nb + 10; omega) hlocks
  obtain ⟨f1, f2⟩ := vx_frame Z.same
  have f1' : H.size ≤ S.heap.size := by rw [← hT]; exact f1
  have f2' : ∀ q : Nat, q < H.size → S.heap[q]? = H[q]? := fun q hq => by
    rw [← hT]
    exact f2 q (by rw [← hT] at hq; exact hq) (fun z hz => nomatch hz)
  have X5 := vx_back9 X Y Z
  have X6 : Stand p l e R s m args below meth c S locs (cells + 3) (slots + (nb + 10)) := { X5 with same := X5.same.mono (by omega) (by omega) }
  obtain ⟨t, a1, b1⟩ := k S.heap q ce f1' f2' ⟨Nat.le_trans hS.1 f1', fun q h1 h2 => (f2' q (Nat.lt_of_lt_of_le h1 hS.1)).trans (hS.2.1 q h1 h2), hS.2.2⟩ hce hv hcl' S rfl X6
  exact ⟨t, st t a1, b1⟩
/-- from the machine's note that NullPointerException is thrown here -/
def vx_NoteN (p : Program) (l : Launch) (e : Env) (R : Room) (s : State) (m : MethodId) (args : Array Value) (below : List Frame) (meth : Method) (c : Code) (H : Heap) (locs : List Loc) (cells slots : Nat) (Q : State → Prop) (g : JFrame) : Prop :=
  ∀ T : State, T.heap = H → Stand p l e R s m args below meth c T locs cells slots → ∃ t, Steps p.tables e below ((T.setTop g).pushFrame (.throwNew "java/lang/NullPointerException" none none)) t ∧ Q t
theorem vx_npe {pc : Nat} {ls : Array Slot} {rest : List Value} {Q : State → Prop} (hexec : p.tables.exec = Jvm.exec) (hl : l.stackTraces = false) {nb : Nat} {A : Nat → Prop}
    (hat : ∀ w ∈ vx_atN nb, w.before args s = true) (hgood : ∀ w ∈ vx_atN nb, vx_ot w = true)
    (hU : vx_Zq Bundle.tN "UNASSIGNED_STACK" Bundle.steD A s s.heap) (hN : vx_Zq Bundle.tN "SUPPRESSED_SENTINEL" Bundle.listD A s s.heap) (hS : va_S A s.heap H locs) (hsize : ls.size = c.maxLocals)
    (hRframes : 7 < R.frames) (hRlocals : (rest.map fun v => v.category).sum + 10240 ≤ R.locals) (hRcells : cells + 1 ≤ R.cells) (hRslots : slots + nb ≤ R.slots) (hlocks : meth.locks = false)
    (k : ∀ (H1 : Heap) (q9 : Addr) (ce : Cell), H.size ≤ H1.size → (∀ q : Nat, q < H.size → H1[q]? = H[q]?) → va_S A s.heap H1 locs → H1[q9]? = some ce → ce.vm = .none → s.vm.findClass "java/lang/NullPointerException" = some ce.cls → vx_W p l e R s m args below meth c H1 locs (cells + 1) (slots + nb) Q (F0 m pc ls rest) q9) :
    vx_NoteN p l e R s m args below meth c H locs cells slots Q (F0 m pc ls rest) := by
  intro T hT X
  have htr : e.platform.stackTraces = false := (show e.platform.stackTraces = l.stackTraces by rw [X.admits.platform]).trans hl
  have Y := vx_rebase X (R' := { frames := R.frames, locals := R.locals, cells := 1, slots := nb }) (Nat.le_refl _) (Nat.le_refl _) hRcells hRslots
  have hhp : ((T.setVm s.vm).setFrames (.invoking m args :: below)).heap = H := hT
  have hW0 : s.WarmedH ((T.setVm s.vm).setFrames (.invoking m args :: below)).vm := State.WarmedH.refl s
  have hat' : ∀ w ∈ vx_atN nb, w.before args ((T.setVm s.vm).setFrames (.invoking m args :: below)) = true := fun w hw => vx_ot_at hW0 rfl (hgood w hw) (hat w hw)
  have hU' : vx_Zq Bundle.tN "UNASSIGNED_STACK" Bundle.steD A ((T.setVm s.vm).setFrames (.invoking m args :: below)) ((T.setVm s.vm).setFrames (.invoking m args :: below)).heap := by rw [hhp]; exact vx_Zq.moved hW0.alike (hU.kept hS.2.1)
  have hN' : vx_Zq Bundle.tN "SUPPRESSED_SENTINEL" Bundle.listD A ((T.setVm s.vm).setFrames (.invoking m args :: below)) ((T.setVm s.vm).setFrames (.invoking m args :: below)).heap := by rw [hhp]; exact vx_Zq.moved hW0.alike (hN.kept hS.2.1)
  obtain ⟨S, q, ce, st, Z, hce, hcl', hv⟩ := vx_npeAt Y hexec htr (n := nb) (vx_own hat' (vx_isRefq hU'.1) (vx_isRefq hN'.1) hU'.2.word hN'.2.word) (fun x hx => nomatch hx)
    (g := F0 m pc ls rest) rfl hsize hRframes (by show 2 * 0 + (rest.map fun v => v.category).sum + 10240 ≤ R.locals; omega) (by show 0 + 1 ≤ 1; omega) (by show 0 + nb ≤ nb; omega) hlocks
  obtain ⟨f1, f2⟩ := vx_frame Z.same
  have f1' : H.size ≤ S.heap.size := by rw [← hT]; exact f1
  have f2' : ∀ q : Nat, q < H.size → S.heap[q]? = H[q]? := fun q hq => by
    rw [← hT]
    exact f2 q (by rw [← hT] at hq; exact hq) (fun z hz => nomatch hz)
  have X5 := vx_back9 X Y Z
  have X6 : Stand p l e R s m args below meth c S locs (cells + 1) (slots + nb) := { X5 with same := X5.same.mono (by omega) (by omega) }
  obtain ⟨t, a1, b1⟩ := k S.heap q ce f1' f2' ⟨Nat.le_trans hS.1 f1', fun q h1 h2 => (f2' q (Nat.lt_of_lt_of_le h1 hS.1)).trans (hS.2.1 q h1 h2), hS.2.2⟩ hce hv hcl' S rfl X6
  exact ⟨t, st t a1, b1⟩
variable {Q : State → Prop} {cc : ByteArray} {pc : Nat} {ls : Array Slot} {rest : List Value}
theorem vx_idivZ (hexec : p.tables.exec = Jvm.exec) (hb : c.code = cc) {a b : Int32} (h0 : b = 0) (d : decode cc pc = .ok (.idiv, 1)) (k : vx_Note p l e R s m args below meth c H locs cells slots Q (F0 m pc ls rest) "java/lang/ArithmeticException" "/ by zero") :
    W p l e R s m args below meth c H locs cells slots Q (F0 m pc ls (.int b :: .int a :: rest)) := by
  intro T hT X
  obtain ⟨t, st, q⟩ := k T hT X
  exact ⟨t, X.idivZero hexec (g := F0 m pc ls (.int b :: .int a :: rest)) rfl (a := a) (rest := rest) (by rw [h0]) (by rw [hb]; exact d) t st, q⟩
theorem vx_iremZ (hexec : p.tables.exec = Jvm.exec) (hb : c.code = cc) {a b : Int32} (h0 : b = 0) (d : decode cc pc = .ok (.irem, 1)) (k : vx_Note p l e R s m args below meth c H locs cells slots Q (F0 m pc ls rest) "java/lang/ArithmeticException" "/ by zero") :
    W p l e R s m args below meth c H locs cells slots Q (F0 m pc ls (.int b :: .int a :: rest)) := by
  intro T hT X
  obtain ⟨t, st, q⟩ := k T hT X
  exact ⟨t, X.iremZero hexec (g := F0 m pc ls (.int b :: .int a :: rest)) rfl (a := a) (rest := rest) (by rw [h0]) (by rw [hb]; exact d) t st, q⟩
theorem vx_ldivZ (hexec : p.tables.exec = Jvm.exec) (hb : c.code = cc) {a b : Int64} (h0 : b = 0) (d : decode cc pc = .ok (.ldiv, 1)) (k : vx_Note p l e R s m args below meth c H locs cells slots Q (F0 m pc ls rest) "java/lang/ArithmeticException" "/ by zero") :
    W p l e R s m args below meth c H locs cells slots Q (F0 m pc ls (.long b :: .long a :: rest)) := by
  intro T hT X
  obtain ⟨t, st, q⟩ := k T hT X
  exact ⟨t, X.ldivZero hexec (g := F0 m pc ls (.long b :: .long a :: rest)) rfl (a := a) (rest := rest) (by rw [h0]) (by rw [hb]; exact d) t st, q⟩
theorem vx_lremZ (hexec : p.tables.exec = Jvm.exec) (hb : c.code = cc) {a b : Int64} (h0 : b = 0) (d : decode cc pc = .ok (.lrem, 1)) (k : vx_Note p l e R s m args below meth c H locs cells slots Q (F0 m pc ls rest) "java/lang/ArithmeticException" "/ by zero") :
    W p l e R s m args below meth c H locs cells slots Q (F0 m pc ls (.long b :: .long a :: rest)) := by
  intro T hT X
  obtain ⟨t, st, q⟩ := k T hT X
  exact ⟨t, X.lremZero hexec (g := F0 m pc ls (.long b :: .long a :: rest)) rfl (a := a) (rest := rest) (by rw [h0]) (by rw [hb]; exact d) t st, q⟩
theorem vx_ialdZ {D : va_G} {cl : List vw_C} {ws : va_W} {tys : List (ClassId × FieldType)} {a : Nat} (hexec : p.tables.exec = Jvm.exec) (hb : c.code = cc) (hK : va_K D cl tys s) (hP : va_P D cl ws H) (q0 t0 : Nat) {cA : ClassId} {n : Nat} {f : Nat → Int32} (ha : ws[q0]? = some (a, .inl (cA, n, .inl f))) (ht : tys[t0]? = some (cA, .int)) {i : Int32} (hout : ¬ vp_in i n) (hdg : decode cc pc = .ok (.iaload, 1))
    (k : ∀ tx : String, tx = (toString "Index " ++ toString i ++ toString " out of bounds for length " ++ toString n : String) → vx_Note p l e R s m args below meth c H locs cells slots Q (F0 m pc ls rest) "java/lang/ArrayIndexOutOfBoundsException" tx) : W p l e R s m args below meth c H locs cells slots Q (F0 m pc ls (.int i :: .ref a :: rest)) := by
  intro T hT X
  obtain ⟨t, st, q⟩ := k _ rfl T hT X
  refine ⟨t, ?_, q⟩
  have h1 := X.ialoadOut hexec (by rw [hT]; exact hP q0 _ ha) ((hK.2 t0 _ ht).1 n (fun j => .int (f j))) (j := i) (by show (i < 0 ∨ (arrV _ _ _).slots.size ≤ _); rw [arrV_size]; exact Classical.byContradiction hout) (g := F0 m pc ls (.int i :: .ref a :: rest)) rfl (rest := rest) rfl (by rw [hb]; exact hdg) t
  simp only [arrV_size] at h1
  exact h1 st
theorem vx_iastZ {D : va_G} {cl : List vw_C} {ws : va_W} {tys : List (ClassId × FieldType)} {a : Nat} (hexec : p.tables.exec = Jvm.exec) (hb : c.code = cc) (hK : va_K D cl tys s) (hP : va_P D cl ws H) (q0 t0 : Nat) {cA : ClassId} {n : Nat} {f : Nat → Int32} (ha : ws[q0]? = some (a, .inl (cA, n, .inl f))) (ht : tys[t0]? = some (cA, .int)) {i : Int32} {x : Int32} (hout : ¬ vp_in i n) (hdg : decode cc pc = .ok (.iastore, 1))
    (k : ∀ tx : String, tx = (toString "Index " ++ toString i ++ toString " out of bounds for length " ++ toString n : String) → vx_Note p l e R s m args below meth c H locs cells slots Q (F0 m pc ls rest) "java/lang/ArrayIndexOutOfBoundsException" tx) : W p l e R s m args below meth c H locs cells slots Q (F0 m pc ls (.int x :: .int i :: .ref a :: rest)) := by
  intro T hT X
  obtain ⟨t, st, q⟩ := k _ rfl T hT X
  refine ⟨t, ?_, q⟩
  have h1 := X.iastoreOut hexec (by rw [hT]; exact hP q0 _ ha) ((hK.2 t0 _ ht).1 n (fun j => .int (f j))) (j := i) (by show (i < 0 ∨ (arrV _ _ _).slots.size ≤ _); rw [arrV_size]; exact Classical.byContradiction hout) (g := F0 m pc ls (.int x :: .int i :: .ref a :: rest)) rfl (rest := rest) rfl (by rw [hb]; exact hdg) t
  simp only [arrV_size] at h1
  exact h1 st
theorem vx_baldZ {D : va_G} {cl : List vw_C} {ws : va_W} {tys : List (ClassId × FieldType)} {a : Nat} (hexec : p.tables.exec = Jvm.exec) (hb : c.code = cc) (hK : va_K D cl tys s) (hP : va_P D cl ws H) (q0 t0 : Nat) {cA : ClassId} {n : Nat} {f : Nat → Int32} (ha : ws[q0]? = some (a, .inl (cA, n, .inl f))) (ht : tys[t0]? = some (cA, .byte)) {i : Int32} (hout : ¬ vp_in i n) (hdg : decode cc pc = .ok (.baload, 1))
    (k : ∀ tx : String, tx = (toString "Index " ++ toString i ++ toString " out of bounds for length " ++ toString n : String) → vx_Note p l e R s m args below meth c H locs cells slots Q (F0 m pc ls rest) "java/lang/ArrayIndexOutOfBoundsException" tx) : W p l e R s m args below meth c H locs cells slots Q (F0 m pc ls (.int i :: .ref a :: rest)) := by
  intro T hT X
  obtain ⟨t, st, q⟩ := k _ rfl T hT X
  refine ⟨t, ?_, q⟩
  have h1 := X.baloadOut hexec (by rw [hT]; exact hP q0 _ ha) ((hK.2 t0 _ ht).1 n (fun j => .int (f j))) (j := i) (by show (i < 0 ∨ (arrV _ _ _).slots.size ≤ _); rw [arrV_size]; exact Classical.byContradiction hout) (g := F0 m pc ls (.int i :: .ref a :: rest)) rfl (rest := rest) rfl (by rw [hb]; exact hdg) t
  simp only [arrV_size] at h1
  exact h1 st
theorem vx_bastZ {D : va_G} {cl : List vw_C} {ws : va_W} {tys : List (ClassId × FieldType)} {a : Nat} (hexec : p.tables.exec = Jvm.exec) (hb : c.code = cc) (hK : va_K D cl tys s) (hP : va_P D cl ws H) (q0 t0 : Nat) {cA : ClassId} {n : Nat} {f : Nat → Int32} (ha : ws[q0]? = some (a, .inl (cA, n, .inl f))) (ht : tys[t0]? = some (cA, .byte)) {i : Int32} {x : Int32} (hout : ¬ vp_in i n) (hdg : decode cc pc = .ok (.bastore, 1))
    (k : ∀ tx : String, tx = (toString "Index " ++ toString i ++ toString " out of bounds for length " ++ toString n : String) → vx_Note p l e R s m args below meth c H locs cells slots Q (F0 m pc ls rest) "java/lang/ArrayIndexOutOfBoundsException" tx) : W p l e R s m args below meth c H locs cells slots Q (F0 m pc ls (.int x :: .int i :: .ref a :: rest)) := by
  intro T hT X
  obtain ⟨t, st, q⟩ := k _ rfl T hT X
  refine ⟨t, ?_, q⟩
  have h1 := X.bastoreOut hexec (by rw [hT]; exact hP q0 _ ha) ((hK.2 t0 _ ht).1 n (fun j => .int (f j))) (j := i) (by show (i < 0 ∨ (arrV _ _ _).slots.size ≤ _); rw [arrV_size]; exact Classical.byContradiction hout) (g := F0 m pc ls (.int x :: .int i :: .ref a :: rest)) rfl (rest := rest) rfl (by rw [hb]; exact hdg) t
  simp only [arrV_size] at h1
  exact h1 st
theorem vx_zaldZ {D : va_G} {cl : List vw_C} {ws : va_W} {tys : List (ClassId × FieldType)} {a : Nat} (hexec : p.tables.exec = Jvm.exec) (hb : c.code = cc) (hK : va_K D cl tys s) (hP : va_P D cl ws H) (q0 t0 : Nat) {cA : ClassId} {n : Nat} {f : Nat → Int32} (ha : ws[q0]? = some (a, .inl (cA, n, .inl f))) (ht : tys[t0]? = some (cA, .boolean)) {i : Int32} (hout : ¬ vp_in i n) (hdg : decode cc pc = .ok (.baload, 1))
    (k : ∀ tx : String, tx = (toString "Index " ++ toString i ++ toString " out of bounds for length " ++ toString n : String) → vx_Note p l e R s m args below meth c H locs cells slots Q (F0 m pc ls rest) "java/lang/ArrayIndexOutOfBoundsException" tx) : W p l e R s m args below meth c H locs cells slots Q (F0 m pc ls (.int i :: .ref a :: rest)) := by
  intro T hT X
  obtain ⟨t, st, q⟩ := k _ rfl T hT X
  refine ⟨t, ?_, q⟩
  have h1 := X.baloadOut hexec (by rw [hT]; exact hP q0 _ ha) ((hK.2 t0 _ ht).1 n (fun j => .int (f j))) (j := i) (by show (i < 0 ∨ (arrV _ _ _).slots.size ≤ _); rw [arrV_size]; exact Classical.byContradiction hout) (g := F0 m pc ls (.int i :: .ref a :: rest)) rfl (rest := rest) rfl (by rw [hb]; exact hdg) t
  simp only [arrV_size] at h1
  exact h1 st
theorem vx_zastZ {D : va_G} {cl : List vw_C} {ws : va_W} {tys : List (ClassId × FieldType)} {a : Nat} (hexec : p.tables.exec = Jvm.exec) (hb : c.code = cc) (hK : va_K D cl tys s) (hP : va_P D cl ws H) (q0 t0 : Nat) {cA : ClassId} {n : Nat} {f : Nat → Int32} (ha : ws[q0]? = some (a, .inl (cA, n, .inl f))) (ht : tys[t0]? = some (cA, .boolean)) {i : Int32} {x : Int32} (hout : ¬ vp_in i n) (hdg : decode cc pc = .ok (.bastore, 1))
    (k : ∀ tx : String, tx = (toString "Index " ++ toString i ++ toString " out of bounds for length " ++ toString n : String) → vx_Note p l e R s m args below meth c H locs cells slots Q (F0 m pc ls rest) "java/lang/ArrayIndexOutOfBoundsException" tx) : W p l e R s m args below meth c H locs cells slots Q (F0 m pc ls (.int x :: .int i :: .ref a :: rest)) := by
  intro T hT X
  obtain ⟨t, st, q⟩ := k _ rfl T hT X
  refine ⟨t, ?_, q⟩
  have h1 := X.bastoreOut hexec (by rw [hT]; exact hP q0 _ ha) ((hK.2 t0 _ ht).1 n (fun j => .int (f j))) (j := i) (by show (i < 0 ∨ (arrV _ _ _).slots.size ≤ _); rw [arrV_size]; exact Classical.byContradiction hout) (g := F0 m pc ls (.int x :: .int i :: .ref a :: rest)) rfl (rest := rest) rfl (by rw [hb]; exact hdg) t
  simp only [arrV_size] at h1
  exact h1 st
theorem vx_caldZ {D : va_G} {cl : List vw_C} {ws : va_W} {tys : List (ClassId × FieldType)} {a : Nat} (hexec : p.tables.exec = Jvm.exec) (hb : c.code = cc) (hK : va_K D cl tys s) (hP : va_P D cl ws H) (q0 t0 : Nat) {cA : ClassId} {n : Nat} {f : Nat → Int32} (ha : ws[q0]? = some (a, .inl (cA, n, .inl f))) (ht : tys[t0]? = some (cA, .char)) {i : Int32} (hout : ¬ vp_in i n) (hdg : decode cc pc = .ok (.caload, 1))
    (k : ∀ tx : String, tx = (toString "Index " ++ toString i ++ toString " out of bounds for length " ++ toString n : String) → vx_Note p l e R s m args below meth c H locs cells slots Q (F0 m pc ls rest) "java/lang/ArrayIndexOutOfBoundsException" tx) : W p l e R s m args below meth c H locs cells slots Q (F0 m pc ls (.int i :: .ref a :: rest)) := by
  intro T hT X
  obtain ⟨t, st, q⟩ := k _ rfl T hT X
  refine ⟨t, ?_, q⟩
  have h1 := X.caloadOut hexec (by rw [hT]; exact hP q0 _ ha) ((hK.2 t0 _ ht).1 n (fun j => .int (f j))) (j := i) (by show (i < 0 ∨ (arrV _ _ _).slots.size ≤ _); rw [arrV_size]; exact Classical.byContradiction hout) (g := F0 m pc ls (.int i :: .ref a :: rest)) rfl (rest := rest) rfl (by rw [hb]; exact hdg) t
  simp only [arrV_size] at h1
  exact h1 st
theorem vx_castZ {D : va_G} {cl : List vw_C} {ws : va_W} {tys : List (ClassId × FieldType)} {a : Nat} (hexec : p.tables.exec = Jvm.exec) (hb : c.code = cc) (hK : va_K D cl tys s) (hP : va_P D cl ws H) (q0 t0 : Nat) {cA : ClassId} {n : Nat} {f : Nat → Int32} (ha : ws[q0]? = some (a, .inl (cA, n, .inl f))) (ht : tys[t0]? = some (cA, .char)) {i : Int32} {x : Int32} (hout : ¬ vp_in i n) (hdg : decode cc pc = .ok (.castore, 1))
    (k : ∀ tx : String, tx = (toString "Index " ++ toString i ++ toString " out of bounds for length " ++ toString n : String) → vx_Note p l e R s m args below meth c H locs cells slots Q (F0 m pc ls rest) "java/lang/ArrayIndexOutOfBoundsException" tx) : W p l e R s m args below meth c H locs cells slots Q (F0 m pc ls (.int x :: .int i :: .ref a :: rest)) := by
  intro T hT X
  obtain ⟨t, st, q⟩ := k _ rfl T hT X
  refine ⟨t, ?_, q⟩
  have h1 := X.castoreOut hexec (by rw [hT]; exact hP q0 _ ha) ((hK.2 t0 _ ht).1 n (fun j => .int (f j))) (j := i) (by show (i < 0 ∨ (arrV _ _ _).slots.size ≤ _); rw [arrV_size]; exact Classical.byContradiction hout) (g := F0 m pc ls (.int x :: .int i :: .ref a :: rest)) rfl (rest := rest) rfl (by rw [hb]; exact hdg) t
  simp only [arrV_size] at h1
  exact h1 st
theorem vx_saldZ {D : va_G} {cl : List vw_C} {ws : va_W} {tys : List (ClassId × FieldType)} {a : Nat} (hexec : p.tables.exec = Jvm.exec) (hb : c.code = cc) (hK : va_K D cl tys s) (hP : va_P D cl ws H) (q0 t0 : Nat) {cA : ClassId} {n : Nat} {f : Nat → Int32} (ha : ws[q0]? = some (a, .inl (cA, n, .inl f))) (ht : tys[t0]? = some (cA, .short)) {i : Int32} (hout : ¬ vp_in i n) (hdg : decode cc pc = .ok (.saload, 1))
    (k : ∀ tx : String, tx = (toString "Index " ++ toString i ++ toString " out of bounds for length " ++ toString n : String) → vx_Note p l e R s m args below meth c H locs cells slots Q (F0 m pc ls rest) "java/lang/ArrayIndexOutOfBoundsException" tx) : W p l e R s m args below meth c H locs cells slots Q (F0 m pc ls (.int i :: .ref a :: rest)) := by
  intro T hT X
  obtain ⟨t, st, q⟩ := k _ rfl T hT X
  refine ⟨t, ?_, q⟩
  have h1 := X.saloadOut hexec (by rw [hT]; exact hP q0 _ ha) ((hK.2 t0 _ ht).1 n (fun j => .int (f j))) (j := i) (by show (i < 0 ∨ (arrV _ _ _).slots.size ≤ _); rw [arrV_size]; exact Classical.byContradiction hout) (g := F0 m pc ls (.int i :: .ref a :: rest)) rfl (rest := rest) rfl (by rw [hb]; exact hdg) t
  simp only [arrV_size] at h1
  exact h1 st
theorem vx_sastZ {D : va_G} {cl : List vw_C} {ws : va_W} {tys : List (ClassId × FieldType)} {a : Nat} (hexec : p.tables.exec = Jvm.exec) (hb : c.code = cc) (hK : va_K D cl tys s) (hP : va_P D cl ws H) (q0 t0 : Nat) {cA : ClassId} {n : Nat} {f : Nat → Int32} (ha : ws[q0]? = some (a, .inl (cA, n, .inl f))) (ht : tys[t0]? = some (cA, .short)) {i : Int32} {x : Int32} (hout : ¬ vp_in i n) (hdg : decode cc pc = .ok (.sastore, 1))
    (k : ∀ tx : String, tx = (toString "Index " ++ toString i ++ toString " out of bounds for length " ++ toString n : String) → vx_Note p l e R s m args below meth c H locs cells slots Q (F0 m pc ls rest) "java/lang/ArrayIndexOutOfBoundsException" tx) : W p l e R s m args below meth c H locs cells slots Q (F0 m pc ls (.int x :: .int i :: .ref a :: rest)) := by
  intro T hT X
  obtain ⟨t, st, q⟩ := k _ rfl T hT X
  refine ⟨t, ?_, q⟩
  have h1 := X.sastoreOut hexec (by rw [hT]; exact hP q0 _ ha) ((hK.2 t0 _ ht).1 n (fun j => .int (f j))) (j := i) (by show (i < 0 ∨ (arrV _ _ _).slots.size ≤ _); rw [arrV_size]; exact Classical.byContradiction hout) (g := F0 m pc ls (.int x :: .int i :: .ref a :: rest)) rfl (rest := rest) rfl (by rw [hb]; exact hdg) t
  simp only [arrV_size] at h1
  exact h1 st
theorem vx_laldZ {D : va_G} {cl : List vw_C} {ws : va_W} {tys : List (ClassId × FieldType)} {a : Nat} (hexec : p.tables.exec = Jvm.exec) (hb : c.code = cc) (hK : va_K D cl tys s) (hP : va_P D cl ws H) (q0 t0 : Nat) {cA : ClassId} {n : Nat} {f : Nat → Int64} (ha : ws[q0]? = some (a, .inl (cA, n, .inr (.inl f)))) (ht : tys[t0]? = some (cA, .long)) {i : Int32} (hout : ¬ vp_in i n) (hdg : decode cc pc = .ok (.laload, 1))
    (k : ∀ tx : String, tx = (toString "Index " ++ toString i ++ toString " out of bounds for length " ++ toString n : String) → vx_Note p l e R s m args below meth c H locs cells slots Q (F0 m pc ls rest) "java/lang/ArrayIndexOutOfBoundsException" tx) : W p l e R s m args below meth c H locs cells slots Q (F0 m pc ls (.int i :: .ref a :: rest)) := by
  intro T hT X
  obtain ⟨t, st, q⟩ := k _ rfl T hT X
  refine ⟨t, ?_, q⟩
  have h1 := X.laloadOut hexec (by rw [hT]; exact hP q0 _ ha) ((hK.2 t0 _ ht).1 n (fun j => .long (f j))) (j := i) (by show (i < 0 ∨ (arrV _ _ _).slots.size ≤ _); rw [arrV_size]; exact Classical.byContradiction hout) (g := F0 m pc ls (.int i :: .ref a :: rest)) rfl (rest := rest) rfl (by rw [hb]; exact hdg) t
  simp only [arrV_size] at h1
  exact h1 st
theorem vx_lastZ {D : va_G} {cl : List vw_C} {ws : va_W} {tys : List (ClassId × FieldType)} {a : Nat} (hexec : p.tables.exec = Jvm.exec) (hb : c.code = cc) (hK : va_K D cl tys s) (hP : va_P D cl ws H) (q0 t0 : Nat) {cA : ClassId} {n : Nat} {f : Nat → Int64} (ha : ws[q0]? = some (a, .inl (cA, n, .inr (.inl f)))) (ht : tys[t0]? = some (cA, .long)) {i : Int32} {x : Int64} (hout : ¬ vp_in i n) (hdg : decode cc pc = .ok (.lastore, 1))
    (k : ∀ tx : String, tx = (toString "Index " ++ toString i ++ toString " out of bounds for length " ++ toString n : String) → vx_Note p l e R s m args below meth c H locs cells slots Q (F0 m pc ls rest) "java/lang/ArrayIndexOutOfBoundsException" tx) : W p l e R s m args below meth c H locs cells slots Q (F0 m pc ls (.long x :: .int i :: .ref a :: rest)) := by
  intro T hT X
  obtain ⟨t, st, q⟩ := k _ rfl T hT X
  refine ⟨t, ?_, q⟩
  have h1 := X.lastoreOut hexec (by rw [hT]; exact hP q0 _ ha) ((hK.2 t0 _ ht).1 n (fun j => .long (f j))) (j := i) (by show (i < 0 ∨ (arrV _ _ _).slots.size ≤ _); rw [arrV_size]; exact Classical.byContradiction hout) (g := F0 m pc ls (.long x :: .int i :: .ref a :: rest)) rfl (rest := rest) rfl (by rw [hb]; exact hdg) t
  simp only [arrV_size] at h1
  exact h1 st
theorem vx_faldZ {D : va_G} {cl : List vw_C} {ws : va_W} {tys : List (ClassId × FieldType)} {a : Nat} (hexec : p.tables.exec = Jvm.exec) (hb : c.code = cc) (hK : va_K D cl tys s) (hP : va_P D cl ws H) (q0 t0 : Nat) {cA : ClassId} {n : Nat} {f : Nat → UInt32} (ha : ws[q0]? = some (a, .inl (cA, n, .inr (.inr (.inl f))))) (ht : tys[t0]? = some (cA, .float)) {i : Int32} (hout : ¬ vp_in i n) (hdg : decode cc pc = .ok (.faload, 1))
    (k : ∀ tx : String, tx = (toString "Index " ++ toString i ++ toString " out of bounds for length " ++ toString n : String) → vx_Note p l e R s m args below meth c H locs cells slots Q (F0 m pc ls rest) "java/lang/ArrayIndexOutOfBoundsException" tx) : W p l e R s m args below meth c H locs cells slots Q (F0 m pc ls (.int i :: .ref a :: rest)) := by
  intro T hT X
  obtain ⟨t, st, q⟩ := k _ rfl T hT X
  refine ⟨t, ?_, q⟩
  have h1 := X.faloadOut hexec (by rw [hT]; exact hP q0 _ ha) ((hK.2 t0 _ ht).1 n (fun j => .float (f j))) (j := i) (by show (i < 0 ∨ (arrV _ _ _).slots.size ≤ _); rw [arrV_size]; exact Classical.byContradiction hout) (g := F0 m pc ls (.int i :: .ref a :: rest)) rfl (rest := rest) rfl (by rw [hb]; exact hdg) t
  simp only [arrV_size] at h1
  exact h1 st
theorem vx_fastZ {D : va_G} {cl : List vw_C} {ws : va_W} {tys : List (ClassId × FieldType)} {a : Nat} (hexec : p.tables.exec = Jvm.exec) (hb : c.code = cc) (hK : va_K D cl tys s) (hP : va_P D cl ws H) (q0 t0 : Nat) {cA : ClassId} {n : Nat} {f : Nat → UInt32} (ha : ws[q0]? = some (a, .inl (cA, n, .inr (.inr (.inl f))))) (ht : tys[t0]? = some (cA, .float)) {i : Int32} {x : UInt32} (hout : ¬ vp_in i n) (hdg : decode cc pc = .ok (.fastore, 1))
    (k : ∀ tx : String, tx = (toString "Index " ++ toString i ++ toString " out of bounds for length " ++ toString n : String) → vx_Note p l e R s m args below meth c H locs cells slots Q (F0 m pc ls rest) "java/lang/ArrayIndexOutOfBoundsException" tx) : W p l e R s m args below meth c H locs cells slots Q (F0 m pc ls (.float x :: .int i :: .ref a :: rest)) := by
  intro T hT X
  obtain ⟨t, st, q⟩ := k _ rfl T hT X
  refine ⟨t, ?_, q⟩
  have h1 := X.fastoreOut hexec (by rw [hT]; exact hP q0 _ ha) ((hK.2 t0 _ ht).1 n (fun j => .float (f j))) (j := i) (by show (i < 0 ∨ (arrV _ _ _).slots.size ≤ _); rw [arrV_size]; exact Classical.byContradiction hout) (g := F0 m pc ls (.float x :: .int i :: .ref a :: rest)) rfl (rest := rest) rfl (by rw [hb]; exact hdg) t
  simp only [arrV_size] at h1
  exact h1 st
theorem vx_daldZ {D : va_G} {cl : List vw_C} {ws : va_W} {tys : List (ClassId × FieldType)} {a : Nat} (hexec : p.tables.exec = Jvm.exec) (hb : c.code = cc) (hK : va_K D cl tys s) (hP : va_P D cl ws H) (q0 t0 : Nat) {cA : ClassId} {n : Nat} {f : Nat → UInt64} (ha : ws[q0]? = some (a, .inl (cA, n, .inr (.inr (.inr (.inl f)))))) (ht : tys[t0]? = some (cA, .double)) {i : Int32} (hout : ¬ vp_in i n) (hdg : decode cc pc = .ok (.daload, 1))
    (k : ∀ tx : String, tx = (toString "Index " ++ toString i ++ toString " out of bounds for length " ++ toString n : String) → vx_Note p l e R s m args below meth c H locs cells slots Q (F0 m pc ls rest) "java/lang/ArrayIndexOutOfBoundsException" tx) : W p l e R s m args below meth c H locs cells slots Q (F0 m pc ls (.int i :: .ref a :: rest)) := by
  intro T hT X
  obtain ⟨t, st, q⟩ := k _ rfl T hT X
  refine ⟨t, ?_, q⟩
  have h1 := X.daloadOut hexec (by rw [hT]; exact hP q0 _ ha) ((hK.2 t0 _ ht).1 n (fun j => .double (f j))) (j := i) (by show (i < 0 ∨ (arrV _ _ _).slots.size ≤ _); rw [arrV_size]; exact Classical.byContradiction hout) (g := F0 m pc ls (.int i :: .ref a :: rest)) rfl (rest := rest) rfl (by rw [hb]; exact hdg) t
  simp only [arrV_size] at h1
  exact h1 st
theorem vx_dastZ {D : va_G} {cl : List vw_C} {ws : va_W} {tys : List (ClassId × FieldType)} {a : Nat} (hexec : p.tables.exec = Jvm.exec) (hb : c.code = cc) (hK : va_K D cl tys s) (hP : va_P D cl ws H) (q0 t0 : Nat) {cA : ClassId} {n : Nat} {f : Nat → UInt64} (ha : ws[q0]? = some (a, .inl (cA, n, .inr (.inr (.inr (.inl f)))))) (ht : tys[t0]? = some (cA, .double)) {i : Int32} {x : UInt64} (hout : ¬ vp_in i n) (hdg : decode cc pc = .ok (.dastore, 1))
    (k : ∀ tx : String, tx = (toString "Index " ++ toString i ++ toString " out of bounds for length " ++ toString n : String) → vx_Note p l e R s m args below meth c H locs cells slots Q (F0 m pc ls rest) "java/lang/ArrayIndexOutOfBoundsException" tx) : W p l e R s m args below meth c H locs cells slots Q (F0 m pc ls (.double x :: .int i :: .ref a :: rest)) := by
  intro T hT X
  obtain ⟨t, st, q⟩ := k _ rfl T hT X
  refine ⟨t, ?_, q⟩
  have h1 := X.dastoreOut hexec (by rw [hT]; exact hP q0 _ ha) ((hK.2 t0 _ ht).1 n (fun j => .double (f j))) (j := i) (by show (i < 0 ∨ (arrV _ _ _).slots.size ≤ _); rw [arrV_size]; exact Classical.byContradiction hout) (g := F0 m pc ls (.double x :: .int i :: .ref a :: rest)) rfl (rest := rest) rfl (by rw [hb]; exact hdg) t
  simp only [arrV_size] at h1
  exact h1 st
theorem vx_arraylengthN (hexec : p.tables.exec = Jvm.exec) (hb : c.code = cc) (hdg : decode cc pc = .ok (.arraylength, 1)) (k : vx_NoteN p l e R s m args below meth c H locs cells slots Q (F0 m pc ls rest)) : W p l e R s m args below meth c H locs cells slots Q (F0 m pc ls (.null :: rest)) := by
  intro T hT X
  obtain ⟨t, st, q⟩ := k T hT X
  exact ⟨t, X.arraylengthNull hexec (g := F0 m pc ls (.null :: rest)) rfl (rest := rest) rfl (by rw [hb]; exact hdg) t st, q⟩
theorem vx_ialoadN (hexec : p.tables.exec = Jvm.exec) (hb : c.code = cc) {i : Int32} (hdg : decode cc pc = .ok (.iaload, 1)) (k : vx_NoteN p l e R s m args below meth c H locs cells slots Q (F0 m pc ls rest)) : W p l e R s m args below meth c H locs cells slots Q (F0 m pc ls (.int i :: .null :: rest)) := by
  intro T hT X
  obtain ⟨t, st, q⟩ := k T hT X
  exact ⟨t, X.ialoadNull hexec (g := F0 m pc ls (.int i :: .null :: rest)) rfl (rest := rest) rfl (by rw [hb]; exact hdg) t st, q⟩
theorem vx_laloadN (hexec : p.tables.exec = Jvm.exec) (hb : c.code = cc) {i : Int32} (hdg : decode cc pc = .ok (.laload, 1)) (k : vx_NoteN p l e R s m args below meth c H locs cells slots Q (F0 m pc ls rest)) : W p l e R s m args below meth c H locs cells slots Q (F0 m pc ls (.int i :: .null :: rest)) := by
  intro T hT X
  obtain ⟨t, st, q⟩ := k T hT X
  exact ⟨t, X.laloadNull hexec (g := F0 m pc ls (.int i :: .null :: rest)) rfl (rest := rest) rfl (by rw [hb]; exact hdg) t st, q⟩
theorem vx_faloadN (hexec : p.tables.exec = Jvm.exec) (hb : c.code = cc) {i : Int32} (hdg : decode cc pc = .ok (.faload, 1)) (k : vx_NoteN p l e R s m args below meth c H locs cells slots Q (F0 m pc ls rest)) : W p l e R s m args below meth c H locs cells slots Q (F0 m pc ls (.int i :: .null :: rest)) := by
  intro T hT X
  obtain ⟨t, st, q⟩ := k T hT X
  exact ⟨t, X.faloadNull hexec (g := F0 m pc ls (.int i :: .null :: rest)) rfl (rest := rest) rfl (by rw [hb]; exact hdg) t st, q⟩
theorem vx_daloadN (hexec : p.tables.exec = Jvm.exec) (hb : c.code = cc) {i : Int32} (hdg : decode cc pc = .ok (.daload, 1)) (k : vx_NoteN p l e R s m args below meth c H locs cells slots Q (F0 m pc ls rest)) : W p l e R s m args below meth c H locs cells slots Q (F0 m pc ls (.int i :: .null :: rest)) := by
  intro T hT X
  obtain ⟨t, st, q⟩ := k T hT X
  exact ⟨t, X.daloadNull hexec (g := F0 m pc ls (.int i :: .null :: rest)) rfl (rest := rest) rfl (by rw [hb]; exact hdg) t st, q⟩
theorem vx_aaloadN (hexec : p.tables.exec = Jvm.exec) (hb : c.code = cc) {i : Int32} (hdg : decode cc pc = .ok (.aaload, 1)) (k : vx_NoteN p l e R s m args below meth c H locs cells slots Q (F0 m pc ls rest)) : W p l e R s m args below meth c H locs cells slots Q (F0 m pc ls (.int i :: .null :: rest)) := by
  intro T hT X
  obtain ⟨t, st, q⟩ := k T hT X
  exact ⟨t, X.aaloadNull hexec (g := F0 m pc ls (.int i :: .null :: rest)) rfl (rest := rest) rfl (by rw [hb]; exact hdg) t st, q⟩
theorem vx_baloadN (hexec : p.tables.exec = Jvm.exec) (hb : c.code = cc) {i : Int32} (hdg : decode cc pc = .ok (.baload, 1)) (k : vx_NoteN p l e R s m args below meth c H locs cells slots Q (F0 m pc ls rest)) : W p l e R s m args below meth c H locs cells slots Q (F0 m pc ls (.int i :: .null :: rest)) := by
  intro T hT X
  obtain ⟨t, st, q⟩ := k T hT X
  exact ⟨t, X.baloadNull hexec (g := F0 m pc ls (.int i :: .null :: rest)) rfl (rest := rest) rfl (by rw [hb]; exact hdg) t st, q⟩
theorem vx_caloadN (hexec : p.tables.exec = Jvm.exec) (hb : c.code = cc) {i : Int32} (hdg : decode cc pc = .ok (.caload, 1)) (k : vx_NoteN p l e R s m args below meth c H locs cells slots Q (F0 m pc ls rest)) : W p l e R s m args below meth c H locs cells slots Q (F0 m pc ls (.int i :: .null :: rest)) := by
  intro T hT X
  obtain ⟨t, st, q⟩ := k T hT X
  exact ⟨t, X.caloadNull hexec (g := F0 m pc ls (.int i :: .null :: rest)) rfl (rest := rest) rfl (by rw [hb]; exact hdg) t st, q⟩
theorem vx_saloadN (hexec : p.tables.exec = Jvm.exec) (hb : c.code = cc) {i : Int32} (hdg : decode cc pc = .ok (.saload, 1)) (k : vx_NoteN p l e R s m args below meth c H locs cells slots Q (F0 m pc ls rest)) : W p l e R s m args below meth c H locs cells slots Q (F0 m pc ls (.int i :: .null :: rest)) := by
  intro T hT X
  obtain ⟨t, st, q⟩ := k T hT X
  exact ⟨t, X.saloadNull hexec (g := F0 m pc ls (.int i :: .null :: rest)) rfl (rest := rest) rfl (by rw [hb]; exact hdg) t st, q⟩
theorem vx_iastoreN (hexec : p.tables.exec = Jvm.exec) (hb : c.code = cc) {x : Int32} {i : Int32} (hdg : decode cc pc = .ok (.iastore, 1)) (k : vx_NoteN p l e R s m args below meth c H locs cells slots Q (F0 m pc ls rest)) : W p l e R s m args below meth c H locs cells slots Q (F0 m pc ls (.int x :: .int i :: .null :: rest)) := by
  intro T hT X
  obtain ⟨t, st, q⟩ := k T hT X
  exact ⟨t, X.iastoreNull hexec (g := F0 m pc ls (.int x :: .int i :: .null :: rest)) rfl (rest := rest) rfl (by rw [hb]; exact hdg) t st, q⟩
theorem vx_lastoreN (hexec : p.tables.exec = Jvm.exec) (hb : c.code = cc) {x : Int64} {i : Int32} (hdg : decode cc pc = .ok (.lastore, 1)) (k : vx_NoteN p l e R s m args below meth c H locs cells slots Q (F0 m pc ls rest)) : W p l e R s m args below meth c H locs cells slots Q (F0 m pc ls (.long x :: .int i :: .null :: rest)) := by
  intro T hT X
  obtain ⟨t, st, q⟩ := k T hT X
  exact ⟨t, X.lastoreNull hexec (g := F0 m pc ls (.long x :: .int i :: .null :: rest)) rfl (rest := rest) rfl (by rw [hb]; exact hdg) t st, q⟩
theorem vx_fastoreN (hexec : p.tables.exec = Jvm.exec) (hb : c.code = cc) {x : UInt32} {i : Int32} (hdg : decode cc pc = .ok (.fastore, 1)) (k : vx_NoteN p l e R s m args below meth c H locs cells slots Q (F0 m pc ls rest)) : W p l e R s m args below meth c H locs cells slots Q (F0 m pc ls (.float x :: .int i :: .null :: rest)) := by
  intro T hT X
  obtain ⟨t, st, q⟩ := k T hT X
  exact ⟨t, X.fastoreNull hexec (g := F0 m pc ls (.float x :: .int i :: .null :: rest)) rfl (rest := rest) rfl (by rw [hb]; exact hdg) t st, q⟩
theorem vx_dastoreN (hexec : p.tables.exec = Jvm.exec) (hb : c.code = cc) {x : UInt64} {i : Int32} (hdg : decode cc pc = .ok (.dastore, 1)) (k : vx_NoteN p l e R s m args below meth c H locs cells slots Q (F0 m pc ls rest)) : W p l e R s m args below meth c H locs cells slots Q (F0 m pc ls (.double x :: .int i :: .null :: rest)) := by
  intro T hT X
  obtain ⟨t, st, q⟩ := k T hT X
  exact ⟨t, X.dastoreNull hexec (g := F0 m pc ls (.double x :: .int i :: .null :: rest)) rfl (rest := rest) rfl (by rw [hb]; exact hdg) t st, q⟩
theorem vx_bastoreN (hexec : p.tables.exec = Jvm.exec) (hb : c.code = cc) {x : Int32} {i : Int32} (hdg : decode cc pc = .ok (.bastore, 1)) (k : vx_NoteN p l e R s m args below meth c H locs cells slots Q (F0 m pc ls rest)) : W p l e R s m args below meth c H locs cells slots Q (F0 m pc ls (.int x :: .int i :: .null :: rest)) := by
  intro T hT X
  obtain ⟨t, st, q⟩ := k T hT X
  exact ⟨t, X.bastoreNull hexec (g := F0 m pc ls (.int x :: .int i :: .null :: rest)) rfl (rest := rest) rfl (by rw [hb]; exact hdg) t st, q⟩
theorem vx_castoreN (hexec : p.tables.exec = Jvm.exec) (hb : c.code = cc) {x : Int32} {i : Int32} (hdg : decode cc pc = .ok (.castore, 1)) (k : vx_NoteN p l e R s m args below meth c H locs cells slots Q (F0 m pc ls rest)) : W p l e R s m args below meth c H locs cells slots Q (F0 m pc ls (.int x :: .int i :: .null :: rest)) := by
  intro T hT X
  obtain ⟨t, st, q⟩ := k T hT X
  exact ⟨t, X.castoreNull hexec (g := F0 m pc ls (.int x :: .int i :: .null :: rest)) rfl (rest := rest) rfl (by rw [hb]; exact hdg) t st, q⟩
theorem vx_sastoreN (hexec : p.tables.exec = Jvm.exec) (hb : c.code = cc) {x : Int32} {i : Int32} (hdg : decode cc pc = .ok (.sastore, 1)) (k : vx_NoteN p l e R s m args below meth c H locs cells slots Q (F0 m pc ls rest)) : W p l e R s m args below meth c H locs cells slots Q (F0 m pc ls (.int x :: .int i :: .null :: rest)) := by
  intro T hT X
  obtain ⟨t, st, q⟩ := k T hT X
  exact ⟨t, X.sastoreNull hexec (g := F0 m pc ls (.int x :: .int i :: .null :: rest)) rfl (rest := rest) rfl (by rw [hb]; exact hdg) t st, q⟩
theorem vx_invokeN {own C : String} {index maxL : Nat} {y : MethodName} {bytes : ByteArray} {ret : Option FieldType} (hexec : p.tables.exec = Jvm.exec) (hb : c.code = cc) (hown : s.vm.findClass own = some m.cls) (hlink : (Cond.methodLink own index y).before args s = true) (hinst : (Cond.instanceMethod y).before args s = true) (hcode : (Cond.code y bytes maxL ret).before args s = true) (hsel : (Cond.selects C y y).before args s = true)
    (hx : y.cls ≠ "java/lang/invoke/MethodHandle" ∧ y.cls ≠ "java/lang/invoke/VarHandle") {As : List Value} (hlen : (parseMethodDescriptor y.desc).map (fun d => d.parameters.length) = some As.length) (hdg : decode cc pc = .ok (.invokevirtual index, 3))
    (k : vx_NoteN p l e R s m args below meth c H locs cells slots Q (F0 m pc ls rest)) {st0 : List Value} (hst : st0 = As.reverse ++ .null :: rest) : W p l e R s m args below meth c H locs cells slots Q (F0 m pc ls st0) := by
  intro T hT X
  obtain ⟨r0, r, hn, hrm, hstR, hsigR⟩ := va_Decl.of hinst hcode
  obtain ⟨c2, r2, m2, q1, q2, q3, q4, kP, hkP, hkPi⟩ := Cond.selects_spec hsel
  cases hn.symm.trans q3
  have hl9 : As.length = r.sig.parameters.length := by
    rw [hsigR] at hlen
    exact (Option.some.inj hlen).symm
  obtain ⟨vm', X1, st1⟩ := X.invokevirtualNull hexec hown hlink hn hrm hstR hkP hkPi hx (g := F0 m pc ls st0) rfl (argsL := As) (rest := rest) hl9 hst (by rw [hb]; exact hdg)
  obtain ⟨t, st, q⟩ := k (T.setVm vm') hT X1
  exact ⟨t, st1 t st, q⟩
theorem vx_newarrayZ {atype : ArrayType} (hexec : p.tables.exec = Jvm.exec) (hb : c.code = cc) {n : Int32} (h0 : n < 0) (hdg : decode cc pc = .ok (.newarray atype, 2)) (k : ∀ tx : String, tx = toString n → vx_Note p l e R s m args below meth c H locs cells slots Q (F0 m pc ls rest) "java/lang/NegativeArraySizeException" tx) : W p l e R s m args below meth c H locs cells slots Q (F0 m pc ls (.int n :: rest)) := by
  intro T hT X
  obtain ⟨t, st, q⟩ := k _ rfl T hT X
  exact ⟨t, X.newarrayNegative hexec (g := F0 m pc ls (.int n :: rest)) rfl h0 (rest := rest) rfl (by rw [hb]; exact hdg) t st, q⟩
end
end VXM
/-! ===== END ===== -/
/-! ===== BEGIN an exception as an object: made, kept, thrown later (no traces kept) ===== -/
section VXK
variable {p : Program} {l : Launch} {e : Env} {R : Room} {s : State} {m₀ : MethodId} {args : Array Value} {below : List Frame} {meth : Method} {c : Code} {W : State} {locs : List Loc} {cells slots : Nat}
set_option maxHeartbeats 1000000 in
theorem vx_ctorMadeS (X : Stand p l e R s m₀ args below meth c W locs cells slots) (hexec : p.tables.exec = Jvm.exec) (htr : e.platform.stackTraces = false) {own cls : String} {names : List String} {ic : Nat}
    (hown : s.vm.findClass own = some m₀.cls) (hcls : Bundle.fit cls = true) (hnames : ∀ n ∈ names, Bundle.fit n = true)
    (h : ∀ a ∈ Bundle.ownAtoms own ic cls names, a.before args s = true)
    (hlocs : ∀ x ∈ locs, ∀ cell, s.heap[x.base]? = some cell → cell.vm.isStatics = false)
    {a : Addr} {cX : ClassId} {kX : Class} (hfoundX : s.vm.findClass cls = some cX) (hkX : s.vm.classes[cX]? = some kX) (hcell : W.heap[a]? = some (freshCell cX kX)) (hnew : s.heap.size ≤ a)
    {msg : Value} (hmsg : msg.isRef = true)
    {g : JFrame} (hg : g.method = m₀) (hsize : g.locals.size = c.maxLocals) {rest : List Value} (hstack : g.stack = msg :: .ref a :: .ref a :: rest)
    (hd6 : decode c.code g.pc = .ok (.invokespecial ic, 3))
    (hRframes : names.length + 3 < R.frames) (hRlocals : 2 * g.monitorRoom + ((Value.ref a :: rest).map fun v => v.category).sum + (13 * (names.length + 1) + 42) ≤ R.locals) :
    ∃ (V : State) (ce : Cell) (L : List Loc), Stand p l e R s m₀ args below meth c (V.setCell a ce) (locs ++ L) cells slots ∧ (∀ y ∈ L, y.base = a) ∧ a < V.heap.size ∧ ce.cls = cX ∧ ce.vm = .none ∧
      ∀ target, Steps p.tables e below ((V.setCell a ce).setTop { g with stack := .ref a :: rest, pc := g.pc + 3 }) target → Steps p.tables e below (W.setTop g) target := by
  have howns : e.platform.frameOwnsMonitors = true := by rw [X.admits.platform]
  have hfin : e.platform.finalization = false := by rw [X.admits.platform]
  have hpl : e.platform.magicAccessors = ({} : Platform).magicAccessors := by rw [X.admits.platform]
  have a' : ∀ x, x ∈ Bundle.ownAtoms own ic cls names → x.holds args s none s [] = true := fun x hx => h x hx
  obtain ⟨T, Z0, L, -, Y⟩ := ThrowableC.of_atoms (args := args) howns hfin hpl (fun x hx => h x (by simp [Bundle.ownAtoms, hx]))
  obtain ⟨Z, M, LZ, LM, hnZ⟩ := Init0T.ofS_atoms (args := args) hpl L Y (fun x hx => h x (by simp [Bundle.ownAtoms, hx]))
  obtain ⟨P1, Ps, hlen, L1, hL, hP1m, hlink1, hlink⟩ := Bundle.chainS (args := args) hpl hnZ names cls hcls hnames (fun x hx => h x (by simp [Bundle.ownAtoms, hx]))
  have hfound : s.vm.findClass cls = some P1.m.cls := findClass_of_methodNamed hP1m
  cases Option.some.inj (hfoundX.symm.trans hfound)
  obtain ⟨c1, kX', hc1, hk, hord, -, -, hn6⟩ := Cond.instantiable_spec (a' (.instantiable cls 6) (by simp [Bundle.ownAtoms]))
  cases Option.some.inj (hc1.symm.trans hfound)
  cases Option.some.inj (hkX.symm.trans hk)
  have hsel0 : selectMethod e.platform s.vm P1.m.cls T.fill0 = .method T.fill0 := by
    obtain ⟨c2, r2, m2, q1, q2, q3, q4, -⟩ := Cond.selects_spec (a' (.selects cls Bundle.tFill0 Bundle.tFill0) (by simp [Bundle.ownAtoms]))
    cases Option.some.inj (q1.symm.trans hfound)
    cases Option.some.inj (q2.symm.trans (State.methodFound?_of_named Y.fill0 (by decide)))
    cases Option.some.inj (q3.symm.trans Y.fill0)
    rw [Launch.admits_selectMethod X.admits]; exact q4
  have hselF : selectMethod e.platform s.vm P1.m.cls T.fill = .method T.fill := by
    obtain ⟨c2, r2, m2, q1, q2, q3, q4, -⟩ := Cond.selects_spec (a' (.selects cls Bundle.tFill Bundle.tFill) (by simp [Bundle.ownAtoms]))
    cases Option.some.inj (q1.symm.trans hfound)
    cases Option.some.inj (q2.symm.trans (State.methodFound?_of_named Y.fill (by decide)))
    cases Option.some.inj (q3.symm.trans Y.fill)
    rw [Launch.admits_selectMethod X.admits]; exact q4
  obtain ⟨cellS0, hcS0, hiss⟩ := Y.statics
  obtain ⟨u0, hu0⟩ := Cond.staticRefV Y.unassigned L.unassignedStatic L.statics hcS0 hiss (a' (.isRef (.static Bundle.tN "UNASSIGNED_STACK" Bundle.steD)) (by simp [Bundle.ownAtoms]))
  obtain ⟨sen, hsen⟩ := Cond.staticRefV Y.sentinel L.sentinelStatic L.statics hcS0 hiss (a' (.isRef (.static Bundle.tN "SUPPRESSED_SENTINEL" Bundle.listD)) (by simp [Bundle.ownAtoms]))
  obtain ⟨ci198, i198, fB, hk198, hg198, ha198, hsB, -, hnB, htB, hffB⟩ := Cond.ownField (t := .object "java/lang/Object") Y.found L.cls (by decide +kernel) (a' (.fieldLink Bundle.tN 198 Bundle.tN "backtrace" "Ljava/lang/Object;") (by simp [Bundle.ownAtoms])) (a' (.lays Bundle.tN Bundle.tN "backtrace" "Ljava/lang/Object;") (by simp [Bundle.ownAtoms])) e.platform hpl
  obtain ⟨cellS, hcS', heS, -, hkeep⟩ := X.same.2.2.2.2.2 T.aS cellS0 hcS0
  have hcellS : W.heap[T.aS]? = some cellS := hcS'
  have hout' : ∀ i, (⟨T.aS, i⟩ : Loc) ∉ locs := fun i hmem => by
    have := hlocs _ hmem cellS0 hcS0
    rw [hiss] at this; cases this
  have hknownS : cellS.vm ≠ .unknown := by
    rw [heS]; intro hu
    rw [show cellS0.vm = .unknown from hu] at hiss
    cases hiss
  have hneS : T.aS ≠ a := Nat.ne_of_lt (Nat.lt_of_lt_of_le (Array.getElem?_eq_some_iff.mp hcS0).1 hnew)
  obtain ⟨iM, hffM⟩ := Y.msg
  obtain ⟨tyC, dC, hdC, hdnC⟩ := Cond.laysAt hfound hk Y.cause (a' (.lays cls Bundle.tN "cause" "Ljava/lang/Throwable;") (by simp [Bundle.ownAtoms]))
  obtain ⟨tyS, dS, hdS, hdnS⟩ := Cond.laysAt hfound hk Y.stack (a' (.lays cls Bundle.tN "stackTrace" Bundle.steD) (by simp [Bundle.ownAtoms]))
  obtain ⟨tyP, dP, hdP, hdnP⟩ := Cond.laysAt hfound hk Y.supp (a' (.lays cls Bundle.tN "suppressedExceptions" Bundle.listD) (by simp [Bundle.ownAtoms]))
  obtain ⟨tyM, dM, hdM, hdnM⟩ := Cond.laysAt hfound hk hffM (a' (.lays cls Bundle.tN "detailMessage" "Ljava/lang/String;") (by simp [Bundle.ownAtoms]))
  obtain ⟨tyB, dB, hdB, hdnB⟩ := Cond.laysAt hfound hk hffB (a' (.lays cls Bundle.tN "backtrace" "Ljava/lang/Object;") (by simp [Bundle.ownAtoms]))
  have bC := Cond.laysApart hdB hdC hdnB hdnC (by rw [hnB, Y.causeName]; decide)
  have bS := Cond.laysApart hdB hdS hdnB hdnS (by rw [hnB, Y.stackName]; decide)
  have bP := Cond.laysApart hdB hdP hdnB hdnP (by rw [hnB, Y.suppName]; decide)
  have hskip : SkipFacts T e.platform s (fun u => u) u0 ((preparedCellV T.toThrowableT (freshCell P1.m.cls kX) a u0 sen).withEntry W.cur) :=
    ⟨{ ci198 := ci198, i198 := i198, fBack := fB }, ⟨hk198, hg198, ha198, hsB⟩, by
      have := fresh_default (c := P1.m.cls) tyB
      rw [htB] at this
      simpa [preparedCellV, Cell.setSlot, Cell.withEntry, Array.getElem?_setIfInBounds, bC, bS, bP, bC.symm, bS.symm, bP.symm, defaultValue] using this, fun _ _ => rfl⟩
  obtain ⟨tm, methC, cdC, kC, vm₁, hnC, -, -, -, -, -, -, -, hW₁, st1⟩ := Steps.initColdS (tb := p.tables) (e := e) (below := below) (s := s) (U := W) X.here hexec X.warmed hpl hown (t := Bundle.initS cls) rfl rfl (Bundle.fit_spec hcls).2
    (a' (.methodLink own ic (Bundle.initS cls)) (by simp [Bundle.ownAtoms])) (h (.instanceMethod (Bundle.initS cls)) (by cases names <;> simp [Bundle.ownAtoms, Bundle.chainSAtoms, Bundle.passSAtoms])) (bytes := Bundle.six) (maxL := 2) (h (.code (Bundle.initS cls) Bundle.six 2 none) (by cases names <;> simp [Bundle.ownAtoms, Bundle.chainSAtoms, Bundle.passSAtoms]))
    (f := g) hg (a := a) (msg := msg) (rest := .ref a :: rest) hstack hd6
  cases Option.some.inj (hnC.symm.trans hP1m)
  have X₁ := X.noted hW₁
  obtain ⟨vm₂, X₂, st2⟩ := X₁.ctorMessageOffV hexec (g := { g with stack := .ref a :: rest }) hg hsize T L Z LZ M LM (P1 :: Ps)
    (fun P hP => by rcases List.mem_cons.mp hP with rfl | hP; exact L1; exact hL P hP) ⟨hlink1, hlink⟩ (u0 := u0) (sen := sen) (self := a) hmsg (cell := freshCell P1.m.cls kX) (cellS := cellS)
    hcell (fun _ => by simp) (by simp) rfl rfl hsel0 hselF hcellS hneS hknownS (by rw [hkeep _ (hout' _)]; exact hu0) (by rw [hkeep _ (hout' _)]; exact hsen)
    (Takes.of_laid hk hord tyC (by rw [Y.causeType]; rfl)) (Takes.of_laid hk hord tyS (by rw [Y.stackType]; exact fits_refV_array _ u0)) (Takes.of_laid hk hord tyP (by rw [Y.suppType]; exact fits_refV_object _ sen))
    (Takes.of_laid hk hord tyM (by rw [Y.msgType]; exact fits_refV_object _ ⟨msg, hmsg⟩)) Y.objLocals hskip htr [] hd6
    (by simp only [List.length_cons, hlen]; omega) (by simp only [List.length_cons, hlen]; exact hRlocals)
  have hlt : a < ((W.setVm vm₁).setVm vm₂).heap.size := (Array.getElem?_eq_some_iff.mp hcell).1
  refine ⟨(W.setVm vm₁).setVm vm₂, _, _, X₂, fun y hy => ?_, hlt, rfl, rfl, fun target hwalk => st1 _ (fun acts => ?_)⟩
  · simp only [List.mem_cons, List.not_mem_nil, or_false] at hy
    rcases hy with rfl | rfl | rfl | rfl | rfl <;> rfl
  · rw [doInvoke_state]
    exact st2 _ hwalk
set_option maxHeartbeats 1000000 in
theorem vx_ctorMade0 (X : Stand p l e R s m₀ args below meth c W locs cells slots) (hexec : p.tables.exec = Jvm.exec) (htr : e.platform.stackTraces = false) {own cls : String} {names : List String} {ic : Nat}
    (hown : s.vm.findClass own = some m₀.cls) (hcls : Bundle.fit cls = true) (hnames : ∀ n ∈ names, Bundle.fit n = true)
    (h : ∀ a ∈ Bundle.ownAtoms0 own ic cls names, a.before args s = true)
    (hlocs : ∀ x ∈ locs, ∀ cell, s.heap[x.base]? = some cell → cell.vm.isStatics = false)
    {a : Addr} {cX : ClassId} {kX : Class} (hfoundX : s.vm.findClass cls = some cX) (hkX : s.vm.classes[cX]? = some kX) (hcell : W.heap[a]? = some (freshCell cX kX)) (hnew : s.heap.size ≤ a)
    {g : JFrame} (hg : g.method = m₀) (hsize : g.locals.size = c.maxLocals) {rest : List Value} (hstack : g.stack = .ref a :: .ref a :: rest)
    (hd6 : decode c.code g.pc = .ok (.invokespecial ic, 3))
    (hRframes : names.length + 3 < R.frames) (hRlocals : 2 * g.monitorRoom + ((Value.ref a :: rest).map fun v => v.category).sum + (13 * (names.length + 1) + 41) ≤ R.locals) :
    ∃ (V : State) (ce : Cell) (L : List Loc), Stand p l e R s m₀ args below meth c (V.setCell a ce) (locs ++ L) cells slots ∧ (∀ y ∈ L, y.base = a) ∧ a < V.heap.size ∧ ce.cls = cX ∧ ce.vm = .none ∧
      ∀ target, Steps p.tables e below ((V.setCell a ce).setTop { g with stack := .ref a :: rest, pc := g.pc + 3 }) target → Steps p.tables e below (W.setTop g) target := by
  have howns : e.platform.frameOwnsMonitors = true := by rw [X.admits.platform]
  have hfin : e.platform.finalization = false := by rw [X.admits.platform]
  have hpl : e.platform.magicAccessors = ({} : Platform).magicAccessors := by rw [X.admits.platform]
  have a' : ∀ x, x ∈ Bundle.ownAtoms0 own ic cls names → x.holds args s none s [] = true := fun x hx => h x hx
  obtain ⟨T, Z, L, LZ, Y⟩ := ThrowableC.of_atoms (args := args) howns hfin hpl (fun x hx => h x (by simp [Bundle.ownAtoms0, hx]))
  obtain ⟨P1, Ps, hlen, L1, hL, hP1m, hlink1, hlink⟩ := Bundle.chain0 (args := args) hpl Y.init0 names cls hcls hnames (fun x hx => h x (by simp [Bundle.ownAtoms0, hx]))
  have hfound : s.vm.findClass cls = some P1.m.cls := findClass_of_methodNamed hP1m
  cases Option.some.inj (hfoundX.symm.trans hfound)
  obtain ⟨c1, kX', hc1, hk, hord, -, -, hn6⟩ := Cond.instantiable_spec (a' (.instantiable cls 6) (by simp [Bundle.ownAtoms0]))
  cases Option.some.inj (hc1.symm.trans hfound)
  cases Option.some.inj (hkX.symm.trans hk)
  have hsel0 : selectMethod e.platform s.vm P1.m.cls T.fill0 = .method T.fill0 := by
    obtain ⟨c2, r2, m2, q1, q2, q3, q4, -⟩ := Cond.selects_spec (a' (.selects cls Bundle.tFill0 Bundle.tFill0) (by simp [Bundle.ownAtoms0]))
    cases Option.some.inj (q1.symm.trans hfound)
    cases Option.some.inj (q2.symm.trans (State.methodFound?_of_named Y.fill0 (by decide)))
    cases Option.some.inj (q3.symm.trans Y.fill0)
    rw [Launch.admits_selectMethod X.admits]; exact q4
  have hselF : selectMethod e.platform s.vm P1.m.cls T.fill = .method T.fill := by
    obtain ⟨c2, r2, m2, q1, q2, q3, q4, -⟩ := Cond.selects_spec (a' (.selects cls Bundle.tFill Bundle.tFill) (by simp [Bundle.ownAtoms0]))
    cases Option.some.inj (q1.symm.trans hfound)
    cases Option.some.inj (q2.symm.trans (State.methodFound?_of_named Y.fill (by decide)))
    cases Option.some.inj (q3.symm.trans Y.fill)
    rw [Launch.admits_selectMethod X.admits]; exact q4
  obtain ⟨cellS0, hcS0, hiss⟩ := Y.statics
  obtain ⟨u0, hu0⟩ := Cond.staticRefV Y.unassigned L.unassignedStatic L.statics hcS0 hiss (a' (.isRef (.static Bundle.tN "UNASSIGNED_STACK" Bundle.steD)) (by simp [Bundle.ownAtoms0]))
  obtain ⟨sen, hsen⟩ := Cond.staticRefV Y.sentinel L.sentinelStatic L.statics hcS0 hiss (a' (.isRef (.static Bundle.tN "SUPPRESSED_SENTINEL" Bundle.listD)) (by simp [Bundle.ownAtoms0]))
  obtain ⟨ci198, i198, fB, hk198, hg198, ha198, hsB, -, hnB, htB, hffB⟩ := Cond.ownField (t := .object "java/lang/Object") Y.found L.cls (by decide +kernel) (a' (.fieldLink Bundle.tN 198 Bundle.tN "backtrace" "Ljava/lang/Object;") (by simp [Bundle.ownAtoms0])) (a' (.lays Bundle.tN Bundle.tN "backtrace" "Ljava/lang/Object;") (by simp [Bundle.ownAtoms0])) e.platform hpl
  obtain ⟨cellS, hcS', heS, -, hkeep⟩ := X.same.2.2.2.2.2 T.aS cellS0 hcS0
  have hcellS : W.heap[T.aS]? = some cellS := hcS'
  have hout' : ∀ i, (⟨T.aS, i⟩ : Loc) ∉ locs := fun i hmem => by
    have := hlocs _ hmem cellS0 hcS0
    rw [hiss] at this; cases this
  have hknownS : cellS.vm ≠ .unknown := by
    rw [heS]; intro hu
    rw [show cellS0.vm = .unknown from hu] at hiss
    cases hiss
  have hneS : T.aS ≠ a := Nat.ne_of_lt (Nat.lt_of_lt_of_le (Array.getElem?_eq_some_iff.mp hcS0).1 hnew)
  obtain ⟨iM, hffM⟩ := Y.msg
  obtain ⟨tyC, dC, hdC, hdnC⟩ := Cond.laysAt hfound hk Y.cause (a' (.lays cls Bundle.tN "cause" "Ljava/lang/Throwable;") (by simp [Bundle.ownAtoms0]))
  obtain ⟨tyS, dS, hdS, hdnS⟩ := Cond.laysAt hfound hk Y.stack (a' (.lays cls Bundle.tN "stackTrace" Bundle.steD) (by simp [Bundle.ownAtoms0]))
  obtain ⟨tyP, dP, hdP, hdnP⟩ := Cond.laysAt hfound hk Y.supp (a' (.lays cls Bundle.tN "suppressedExceptions" Bundle.listD) (by simp [Bundle.ownAtoms0]))
  obtain ⟨tyM, dM, hdM, hdnM⟩ := Cond.laysAt hfound hk hffM (a' (.lays cls Bundle.tN "detailMessage" "Ljava/lang/String;") (by simp [Bundle.ownAtoms0]))
  obtain ⟨tyB, dB, hdB, hdnB⟩ := Cond.laysAt hfound hk hffB (a' (.lays cls Bundle.tN "backtrace" "Ljava/lang/Object;") (by simp [Bundle.ownAtoms0]))
  have bC := Cond.laysApart hdB hdC hdnB hdnC (by rw [hnB, Y.causeName]; decide)
  have bS := Cond.laysApart hdB hdS hdnB hdnS (by rw [hnB, Y.stackName]; decide)
  have bP := Cond.laysApart hdB hdP hdnB hdnP (by rw [hnB, Y.suppName]; decide)
  have hskip : SkipFacts T e.platform s (fun u => u) u0 ((preparedCellV T.toThrowableT (freshCell P1.m.cls kX) a u0 sen).withEntry W.cur) :=
    ⟨{ ci198 := ci198, i198 := i198, fBack := fB }, ⟨hk198, hg198, ha198, hsB⟩, by
      have := fresh_default (c := P1.m.cls) tyB
      rw [htB] at this
      simpa [preparedCellV, Cell.setSlot, Cell.withEntry, Array.getElem?_setIfInBounds, bC, bS, bP, bC.symm, bS.symm, bP.symm, defaultValue] using this, fun _ _ => rfl⟩
  obtain ⟨tm, methC, cdC, kC, vm₁, hnC, -, -, -, -, -, -, -, hW₁, st1⟩ := Steps.initCold (tb := p.tables) (e := e) (below := below) (s := s) (U := W) X.here hexec X.warmed hpl hown (t := Bundle.init0 cls) rfl rfl (Bundle.fit_spec hcls).2
    (a' (.methodLink own ic (Bundle.init0 cls)) (by simp [Bundle.ownAtoms0])) (h (.instanceMethod (Bundle.init0 cls)) (by cases names <;> simp [Bundle.ownAtoms0, Bundle.chain0Atoms, Bundle.passAtoms])) (bytes := Bundle.five) (maxL := 1) (h (.code (Bundle.init0 cls) Bundle.five 1 none) (by cases names <;> simp [Bundle.ownAtoms0, Bundle.chain0Atoms, Bundle.passAtoms]))
    (f := g) hg (a := a) (rest := .ref a :: rest) hstack hd6
  cases Option.some.inj (hnC.symm.trans hP1m)
  have X₁ := X.noted hW₁
  obtain ⟨vm₂, X₂, st2⟩ := X₁.ctorPlainOffV hexec (g := { g with stack := .ref a :: rest }) hg hsize T L Z LZ (P1 :: Ps)
    (fun P hP => by rcases List.mem_cons.mp hP with rfl | hP; exact L1; exact hL P hP) ⟨hlink1, hlink⟩ (u0 := u0) (sen := sen) (self := a) (cell := freshCell P1.m.cls kX) (cellS := cellS)
    hcell (fun _ => by simp) (by simp) rfl rfl hsel0 hselF hcellS hneS hknownS (by rw [hkeep _ (hout' _)]; exact hu0) (by rw [hkeep _ (hout' _)]; exact hsen)
    (Takes.of_laid hk hord tyC (by rw [Y.causeType]; rfl)) (Takes.of_laid hk hord tyS (by rw [Y.stackType]; exact fits_refV_array _ u0)) (Takes.of_laid hk hord tyP (by rw [Y.suppType]; exact fits_refV_object _ sen)) Y.objLocals hskip htr [] hd6
    (by simp only [List.length_cons, hlen]; omega) (by simp only [List.length_cons, hlen]; exact hRlocals)
  have hlt : a < ((W.setVm vm₁).setVm vm₂).heap.size := (Array.getElem?_eq_some_iff.mp hcell).1
  refine ⟨(W.setVm vm₁).setVm vm₂, _, _, X₂, fun y hy => ?_, hlt, rfl, rfl, fun target hwalk => st1 _ (fun acts => ?_)⟩
  · simp only [List.mem_cons, List.not_mem_nil, or_false] at hy
    rcases hy with rfl | rfl | rfl | rfl <;> rfl
  · rw [doInvoke_state]
    exact st2 _ hwalk
end VXK
section VXK2
variable {p : Program} {l : Launch} {e : Env} {R : Room} {s : State} {m : MethodId} {args : Array Value} {below : List Frame} {meth : Method} {c : Code} {H : Heap} {locs : List Loc} {cells slots : Nat} {Q : State → Prop}
variable {ls : Array Slot} {rest : List Value} {D : va_G} {cl : List vw_C} {tys : List (ClassId × FieldType)} {ws : va_W}
/-- 'new E("text")' that isn't thrown at once: the object goes on the stack -/
theorem vx_makeS {cc : ByteArray} {pc : Nat} (hexec : p.tables.exec = Jvm.exec) (hb : c.code = cc) (hl : l.stackTraces = false) {own cls text : String} {names : List String} {ik is ic sa ci : Nat} {A : Nat → Prop} {T0 : u_T}
    (hown : s.vm.findClass own = some m.cls) (hcls : Bundle.fit cls = true) (hnames : ∀ n ∈ names, Bundle.fit n = true)
    (hk : (Cond.classLink own ik cls).before args s = true) (hini : (Cond.initialized cls).before args s = true) (hstr : vk_R own is text sa s) (hat : ∀ w ∈ vx_atS own ic cls names, w.before args s = true)
    (hgood : ∀ w ∈ Cond.classLink own ik cls :: Cond.initialized cls :: vx_atS own ic cls names, vx_ot w = true)
    (hU : vx_Zq Bundle.tN "UNASSIGNED_STACK" Bundle.steD A s s.heap) (hN : vx_Zq Bundle.tN "SUPPRESSED_SENTINEL" Bundle.listD A s s.heap) (hS : va_S A s.heap H locs) (hsize : ls.size = c.maxLocals)
    (d0 : decode cc pc = .ok (.new ik, 3)) (d3 : decode cc (pc + 3) = .ok (.dup, 1)) (d4 : decode cc (pc + 4) = .ok (.ldc is, 2)) (d6 : decode cc (pc + 6) = .ok (.invokespecial ic, 3))
    (hK : va_K D cl tys s) (hP : va_P D cl ws H) (hD : va_D A ws) (hA : ∀ q, s.heap.size ≤ q → A q) (hc : cl[ci]? = some (cls, T0, 0))
    (hRframes : names.length + 3 < R.frames) (hRlocals : (rest.map fun v => v.category).sum + (13 * (names.length + 1) + 43) ≤ R.locals) (hRcells : cells + 1 ≤ R.cells) (hRslots : slots + 6 ≤ R.slots)
    (kk : ∀ (q : Nat) (H1 : Heap), va_P D cl (ws ++ [(q, .inr (ci, []))]) H1 → va_D A (ws ++ [(q, .inr (ci, []))]) → va_S A s.heap H1 locs → W p l e R s m args below meth c H1 locs (cells + 1) (slots + 6) Q (F0 m (pc + 9) ls (.ref q :: rest))) :
    W p l e R s m args below meth c H locs cells slots Q (F0 m pc ls rest) := by
  intro T hT X
  subst hT
  have htr : e.platform.stackTraces = false := (show e.platform.stackTraces = l.stackTraces by rw [X.admits.platform]).trans hl
  have Y := vx_rebase X (R' := { frames := R.frames, locals := R.locals, cells := 1, slots := 6 }) (Nat.le_refl _) (Nat.le_refl _) hRcells hRslots
  obtain ⟨s', hA'⟩ : ∃ z, z = (T.setVm s.vm).setFrames (.invoking m args :: below) := ⟨_, rfl⟩
  rw [← hA'] at Y
  have hvm : s'.vm = s.vm := by rw [hA']; rfl
  have hhp : s'.heap = T.heap := by rw [hA']; rfl
  have hW0 : s.WarmedH s'.vm := by rw [hvm]; exact State.WarmedH.refl s
  have hat' : ∀ w ∈ vx_atS own ic cls names, w.before args s' = true := fun w hw => vx_ot_at hW0 hvm.symm (hgood w (List.mem_cons_of_mem _ (List.mem_cons_of_mem _ hw))) (hat w hw)
  have hk' : (Cond.classLink own ik cls).before args s' = true := vx_ot_at hW0 hvm.symm (hgood _ List.mem_cons_self) hk
  have hini' : (Cond.initialized cls).before args s' = true := vx_ot_at hW0 hvm.symm (hgood _ (List.mem_cons_of_mem _ List.mem_cons_self)) hini
  have hU' : vx_Zq Bundle.tN "UNASSIGNED_STACK" Bundle.steD A s' s'.heap := by rw [hhp]; exact vx_Zq.moved hW0.alike (hU.kept hS.2.1)
  have hN' : vx_Zq Bundle.tN "SUPPRESSED_SENTINEL" Bundle.listD A s' s'.heap := by rw [hhp]; exact vx_Zq.moved hW0.alike (hN.kept hS.2.1)
  have h : ∀ w ∈ Bundle.ownAtoms own ic cls names, w.before args s' = true := vx_own hat' (vx_isRefq hU'.1) (vx_isRefq hN'.1) hU'.2.word hN'.2.word
  have hown' : s'.vm.findClass own = some m.cls := by rw [hvm]; exact hown
  have hins : (Cond.instantiable cls 6).before args s' = true := h _ (by simp [Bundle.ownAtoms])
  obtain ⟨vm₁, cX, kX, hfX, hkX, -, -, X₁, st1⟩ := Y.newCold hexec (own := own) (C := cls) (index := ik) (n := 6) hown' hk' hins hini'
    (g := F0 m pc ls rest) rfl (by rw [hb]; exact d0) (Nat.le_refl _) (Nat.le_refl _)
  generalize hT1 : (T.setVm vm₁).pushCell { cls := cX, slots := kX.instanceTypes.map defaultValue, vm := .none } = T1 at X₁ st1
  have hcat : (Value.ref T.heap.size).category = 1 := rfl
  have hcellA : T1.heap[T.heap.size]? = some (freshCell cX kX) := by rw [← hT1]; exact State.heap_pushCell_size _ _
  have d3' : decode c.code (pc + 3) = .ok (.dup, 1) := by rw [hb]; exact d3
  have d4' : decode c.code (pc + 4) = .ok (.ldc is, 2) := by rw [hb]; exact d4
  have hstr' : vk_R own is text sa s' := vk_R.warm hW0 hstr
  obtain ⟨V, ce, L, Z, hL, hlt, hcl9, hvm9, st⟩ := vx_ctorMadeS X₁ hexec htr (own := own) (cls := cls) (names := names) (ic := ic) hown' hcls hnames h (fun x hx => nomatch hx) hfX hkX hcellA (by rw [hhp]; exact Nat.le_refl _) (msg := .ref sa) rfl
    (g := { method := m, pc := pc + 6, locals := ls, stack := .ref sa :: .ref T.heap.size :: .ref T.heap.size :: rest, locked := none }) rfl hsize (rest := rest) rfl
    (by rw [hb]; exact d6) hRframes (by simp only [List.map_cons, List.sum_cons, hcat]; omega)
  have Z0 := Stand.forget (locs := []) Z (fun y hy => by rw [hL y hy, hhp]; exact Nat.le_refl _)
  obtain ⟨f1, f2⟩ := vx_frame Z0.same
  rw [hhp] at f1 f2
  have hcid : ce.cls = D.1 ci := by
    rw [hcl9]
    have h1 := (hK.1 ci _ hc).2.1
    rw [hvm] at hfX
    exact Option.some.inj (hfX.symm.trans h1)
  have hh : (V.setCell T.heap.size ce).heap[T.heap.size]? = some ce := heapAt_setCell_self (s := V) ce hlt
  subst hA'
  have X5 := vx_back9 X Y Z0
  have X6 : Stand p l e R s m args below meth c (V.setCell T.heap.size ce) locs (cells + 1) (slots + 6) := { X5 with same := X5.same.mono (by omega) (by omega) }
  have hk9 : ∀ (k : Nat) (x : Nat × va_E), ws[k]? = some x → (V.setCell T.heap.size ce).heap[x.1]? = T.heap[x.1]? := fun k x hx => f2 x.1 ((hP k x hx).lt) (fun z hz => nomatch hz)
  obtain ⟨t, a1, b1⟩ := kk T.heap.size (V.setCell T.heap.size ce).heap ((hP.kept hk9).app (fun k x hx => by
      have hz : k < 1 := (List.getElem?_eq_some_iff.mp hx).1
      rw [show k = 0 by omega] at hx
      cases hx
      exact ⟨_, hc, ce, hh, hcid, hvm9, fun k hk => absurd hk (Nat.not_lt_zero k)⟩)) (hD.push hP rfl (hA _ hS.1)) ⟨Nat.le_trans hS.1 f1, fun q h1 h2 => (f2 q (Nat.lt_of_lt_of_le h1 hS.1) (fun z hz => nomatch hz)).trans (hS.2.1 q h1 h2), hS.2.2⟩ _ rfl X6
  refine ⟨t, st1 _ ?_, b1⟩
  show Steps p.tables e below (T1.setTop { method := m, pc := pc + 3, locals := ls, stack := .ref T.heap.size :: rest, locked := none }) _
  jvm_step X₁.here [X₁.here.top, hexec, d3', Value.category]
  exact X₁.ldcString hexec (own := own) (text := text) (index := is) (a := sa) hown' hstr'.1 hstr'.2
    (g := { method := m, pc := pc + 4, locals := ls, stack := .ref T.heap.size :: .ref T.heap.size :: rest, locked := none }) rfl d4' _ (st _ a1)
/-- 'new E()' that isn't thrown at once: the object goes on the stack -/
theorem vx_make0 {cc : ByteArray} {pc : Nat} (hexec : p.tables.exec = Jvm.exec) (hb : c.code = cc) (hl : l.stackTraces = false) {own cls : String} {names : List String} {ik ic ci : Nat} {A : Nat → Prop} {T0 : u_T}
    (hown : s.vm.findClass own = some m.cls) (hcls : Bundle.fit cls = true) (hnames : ∀ n ∈ names, Bundle.fit n = true)
    (hk : (Cond.classLink own ik cls).before args s = true) (hini : (Cond.initialized cls).before args s = true) (hat : ∀ w ∈ vx_at0 own ic cls names, w.before args s = true)
    (hgood : ∀ w ∈ Cond.classLink own ik cls :: Cond.initialized cls :: vx_at0 own ic cls names, vx_ot w = true)
    (hU : vx_Zq Bundle.tN "UNASSIGNED_STACK" Bundle.steD A s s.heap) (hN : vx_Zq Bundle.tN "SUPPRESSED_SENTINEL" Bundle.listD A s s.heap) (hS : va_S A s.heap H locs) (hsize : ls.size = c.maxLocals)
    (d0 : decode cc pc = .ok (.new ik, 3)) (d3 : decode cc (pc + 3) = .ok (.dup, 1)) (d4 : decode cc (pc + 4) = .ok (.invokespecial ic, 3))
    (hK : va_K D cl tys s) (hP : va_P D cl ws H) (hD : va_D A ws) (hA : ∀ q, s.heap.size ≤ q → A q) (hc : cl[ci]? = some (cls, T0, 0))
    (hRframes : names.length + 3 < R.frames) (hRlocals : (rest.map fun v => v.category).sum + (13 * (names.length + 1) + 42) ≤ R.locals) (hRcells : cells + 1 ≤ R.cells) (hRslots : slots + 6 ≤ R.slots)
    (kk : ∀ (q : Nat) (H1 : Heap), va_P D cl (ws ++ [(q, .inr (ci, []))]) H1 → va_D A (ws ++ [(q, .inr (ci, []))]) → va_S A s.heap H1 locs → W p l e R s m args below meth c H1 locs (cells + 1) (slots + 6) Q (F0 m (pc + 7) ls (.ref q :: rest))) :
    W p l e R s m args below meth c H locs cells slots Q (F0 m pc ls rest) := by
  intro T hT X
  subst hT
  have htr : e.platform.stackTraces = false := (show e.platform.stackTraces = l.stackTraces by rw [X.admits.platform]).trans hl
  have Y := vx_rebase X (R' := { frames := R.frames, locals := R.locals, cells := 1, slots := 6 }) (Nat.le_refl _) (Nat.le_refl _) hRcells hRslots
  obtain ⟨s', hA'⟩ : ∃ z, z = (T.setVm s.vm).setFrames (.invoking m args :: below) := ⟨_, rfl⟩
  rw [← hA'] at Y
  have hvm : s'.vm = s.vm := by rw [hA']; rfl
  have hhp : s'.heap = T.heap := by rw [hA']; rfl
  have hW0 : s.WarmedH s'.vm := by rw [hvm]; exact State.WarmedH.refl s
  have hat' : ∀ w ∈ vx_at0 own ic cls names, w.before args s' = true := fun w hw => vx_ot_at hW0 hvm.symm (hgood w (List.mem_cons_of_mem _ (List.mem_cons_of_mem _ hw))) (hat w hw)
  have hk' : (Cond.classLink own ik cls).before args s' = true := vx_ot_at hW0 hvm.symm (hgood _ List.mem_cons_self) hk
  have hini' : (Cond.initialized cls).before args s' = true := vx_ot_at hW0 hvm.symm (hgood _ (List.mem_cons_of_mem _ List.mem_cons_self)) hini
  have hU' : vx_Zq Bundle.tN "UNASSIGNED_STACK" Bundle.steD A s' s'.heap := by rw [hhp]; exact vx_Zq.moved hW0.alike (hU.kept hS.2.1)
  have hN' : vx_Zq Bundle.tN "SUPPRESSED_SENTINEL" Bundle.listD A s' s'.heap := by rw [hhp]; exact vx_Zq.moved hW0.alike (hN.kept hS.2.1)
  have h : ∀ w ∈ Bundle.ownAtoms0 own ic cls names, w.before args s' = true := vx_own hat' (vx_isRefq hU'.1) (vx_isRefq hN'.1) hU'.2.word hN'.2.word
  have hown' : s'.vm.findClass own = some m.cls := by rw [hvm]; exact hown
  have hins : (Cond.instantiable cls 6).before args s' = true := h _ (by simp [Bundle.ownAtoms0])
  obtain ⟨vm₁, cX, kX, hfX, hkX, -, -, X₁, st1⟩ := Y.newCold hexec (own := own) (C := cls) (index := ik) (n := 6) hown' hk' hins hini'
    (g := F0 m pc ls rest) rfl (by rw [hb]; exact d0) (Nat.le_refl _) (Nat.le_refl _)
  generalize hT1 : (T.setVm vm₁).pushCell { cls := cX, slots := kX.instanceTypes.map defaultValue, vm := .none } = T1 at X₁ st1
  have hcat : (Value.ref T.heap.size).category = 1 := rfl
  have hcellA : T1.heap[T.heap.size]? = some (freshCell cX kX) := by rw [← hT1]; exact State.heap_pushCell_size _ _
  have d3' : decode c.code (pc + 3) = .ok (.dup, 1) := by rw [hb]; exact d3
  obtain ⟨V, ce, L, Z, hL, hlt, hcl9, hvm9, st⟩ := vx_ctorMade0 X₁ hexec htr (own := own) (cls := cls) (names := names) (ic := ic) hown' hcls hnames h (fun x hx => nomatch hx) hfX hkX hcellA (by rw [hhp]; exact Nat.le_refl _)
    (g := { method := m, pc := pc + 4, locals := ls, stack := .ref T.heap.size :: .ref T.heap.size :: rest, locked := none }) rfl hsize (rest := rest) rfl
    (by rw [hb]; exact d4) hRframes (by simp only [List.map_cons, List.sum_cons, hcat]; omega)
  have Z0 := Stand.forget (locs := []) Z (fun y hy => by rw [hL y hy, hhp]; exact Nat.le_refl _)
  obtain ⟨f1, f2⟩ := vx_frame Z0.same
  rw [hhp] at f1 f2
  have hcid : ce.cls = D.1 ci := by
    rw [hcl9]
    have h1 := (hK.1 ci _ hc).2.1
    rw [hvm] at hfX
    exact Option.some.inj (hfX.symm.trans h1)
  have hh : (V.setCell T.heap.size ce).heap[T.heap.size]? = some ce := heapAt_setCell_self (s := V) ce hlt
  subst hA'
  have X5 := vx_back9 X Y Z0
  have X6 : Stand p l e R s m args below meth c (V.setCell T.heap.size ce) locs (cells + 1) (slots + 6) := { X5 with same := X5.same.mono (by omega) (by omega) }
  have hk9 : ∀ (k : Nat) (x : Nat × va_E), ws[k]? = some x → (V.setCell T.heap.size ce).heap[x.1]? = T.heap[x.1]? := fun k x hx => f2 x.1 ((hP k x hx).lt) (fun z hz => nomatch hz)
  obtain ⟨t, a1, b1⟩ := kk T.heap.size (V.setCell T.heap.size ce).heap ((hP.kept hk9).app (fun k x hx => by
      have hz : k < 1 := (List.getElem?_eq_some_iff.mp hx).1
      rw [show k = 0 by omega] at hx
      cases hx
      exact ⟨_, hc, ce, hh, hcid, hvm9, fun k hk => absurd hk (Nat.not_lt_zero k)⟩)) (hD.push hP rfl (hA _ hS.1)) ⟨Nat.le_trans hS.1 f1, fun q h1 h2 => (f2 q (Nat.lt_of_lt_of_le h1 hS.1) (fun z hz => nomatch hz)).trans (hS.2.1 q h1 h2), hS.2.2⟩ _ rfl X6
  refine ⟨t, st1 _ ?_, b1⟩
  show Steps p.tables e below (T1.setTop { method := m, pc := pc + 3, locals := ls, stack := .ref T.heap.size :: rest, locked := none }) _
  jvm_step X₁.here [X₁.here.top, hexec, d3', Value.category]
  exact st _ a1
/-- 'throw x' of an object that was made before -/
theorem vx_athrow {cc : ByteArray} {pc : Nat} (hexec : p.tables.exec = Jvm.exec) (hb : c.code = cc) {q : Addr} (hdg : decode cc pc = .ok (.athrow, 1)) (k : vx_W p l e R s m args below meth c H locs cells slots Q (F0 m pc ls rest) q) : W p l e R s m args below meth c H locs cells slots Q (F0 m pc ls (.ref q :: rest)) := by
  intro T hT X
  obtain ⟨t, st, hq⟩ := k T hT X
  refine ⟨t, ?_, hq⟩
  have hdg' : decode c.code pc = .ok (.athrow, 1) := by rw [hb]; exact hdg
  jvm_step X.here [X.here.top, hexec, hdg', athrow.wp_sem]
  exact st
end VXK2
/-! ===== END ===== -/
/-! ===== BEGIN a constructor that throws (launches without stack traces) ===== -/
section VXIA
variable {p : Program} {l : Launch} {e : Env} {R : Room} {s : State} {m : MethodId} {args : Array Value} {below : List Frame} {meth : Method} {c : Code} {T : State} {locs : List Loc} {cells slots : Nat}
theorem vx_callI (X : Stand p l e R s m args below meth c T locs cells slots) (hexec : p.tables.exec = Jvm.exec) {own : String} {index : Nat} {y : MethodName} {bytes : ByteArray} {maxL : Nat}
    (hown : s.vm.findClass own = some m.cls) (hy1 : y.name = "<init>") (hlink : (Cond.methodLink own index y).before args s = true) (hinst : (Cond.instanceMethod y).before args s = true)
    (hcode : (Cond.code y bytes maxL none).before args s = true) (hy : y.cls ≠ "java/lang/invoke/MethodHandle" ∧ y.cls ≠ "java/lang/invoke/VarHandle")
    {W9 : Nat} {Pre : Pt → Array Value → Prop} {Post : Pt → Array Value → Option Value → Pt → Prop} {PostX : Pt → Array Value → Addr → Pt → Prop} (hK : vx_Back l R p e below s args y 3 W9 Pre Post PostX)
    {g : JFrame} (hg : g.method = m) (hsize : g.locals.size = c.maxLocals) {a : Addr} {argsL rest : List Value} (hlen : ∀ sig, parseMethodDescriptor y.desc = some sig → argsL.length = sig.parameters.length)
    (hstack : g.stack = argsL.reverse ++ .ref a :: rest) (hW : 2 * g.monitorRoom + (rest.map fun v => v.category).sum ≤ W9) (hdg : decode c.code g.pc = .ok (.invokespecial index, 3))
    (hpre : ∀ vm₁, s.WarmedH vm₁ → Pre ⟨T.setVm vm₁, locs, cells, slots⟩ (Value.ref a :: argsL).toArray) :
    (∃ (v : Option Value) (vm₁ : Vm) (B : Pt), s.WarmedH vm₁ ∧ Stand p l e R s m args below meth c B.U B.locs B.cells B.slots ∧ Post ⟨T.setVm vm₁, locs, cells, slots⟩ (Value.ref a :: argsL).toArray v B ∧
      ∀ target, Steps p.tables e below (B.U.setTop { g with pc := g.pc + 3, stack := v.toList ++ rest }) target → Steps p.tables e below (T.setTop g) target) ∨
    (∃ (q : Addr) (vm₁ : Vm) (B : Pt), s.WarmedH vm₁ ∧ Stand p l e R s m args below meth c B.U B.locs B.cells B.slots ∧ PostX ⟨T.setVm vm₁, locs, cells, slots⟩ (Value.ref a :: argsL).toArray q B ∧
      Steps p.tables e below (T.setTop g) ((B.U.setTop { g with stack := rest }).pushFrame (.throwing q))) := by
  subst hg
  have hpl : e.platform.magicAccessors = ({} : Platform).magicAccessors := by rw [X.admits.platform]
  obtain ⟨mk, methM, cM, kP, vm₁, hnamed, hmethM, hcodeM, -, hlocalsM, -, hkP, -, hW₁, hstep₁⟩ := Steps.initColdArgs (e := e) X.here hexec X.warmed hpl hown hy1 hy hlink hinst hcode (f := g) rfl hlen hstack hdg
  have X₁ := X.noted hW₁
  rcases hK g.method meth c ⟨T.setVm vm₁, locs, cells, slots⟩ { g with stack := rest } (.invokespecial index) mk (Value.ref a :: argsL).toArray X₁ rfl hsize hdg hW (X₁.named hnamed) (hpre vm₁ X₁.warmed) with ⟨v, B, X', hpost, hsteps⟩ | ⟨q, B, X', hpost, hsteps⟩
  · exact Or.inl ⟨v, vm₁, B, X₁.warmed, X', hpost, fun target h => hstep₁ _ fun acts => by rw [doInvoke_state]; exact hsteps.trans h⟩
  · exact Or.inr ⟨q, vm₁, B, X₁.warmed, X', hpost, hstep₁ _ fun acts => by rw [doInvoke_state]; exact hsteps⟩
end VXIA
section VXIB
variable {p : Program} {l : Launch} {e : Env} {R : Room} {s : State} {m : MethodId} {args : Array Value} {below : List Frame} {meth : Method} {c : Code} {H : Heap} {locs : List Loc} {cells slots : Nat}
variable {y : MethodName} {bytes cc : ByteArray} {maxL nL mc ms n index : Nat} {ret : Option FieldType} {ws : List Cond} {rm : Room} {Pc : Array Value → State → Prop} {Qc : Array Value → State → Outcome → State → Prop} {XC : String → State → State → Prop} {free : Addr → Prop} {Ts : List Cond} {own C : String} {b : Addr} {As rest : List Value} {g : JFrame}
theorem vx_runI (S : CallFix p m c cc nL s args Ts own) (hM : vx_Met l y ws rm Pc Qc XC mc ms free) (cw : CallB R s args own index y bytes maxL none ws rm mc ms n ∧ y.name = "<init>" ∧ (Cond.instanceMethod y).before args s = true) (hp : PreS s H Pc (.ref b :: As))
    (hg : g.method = m) (hn : As.length = n) (hsize : g.locals.size = nL) (hstack : g.stack = As.reverse ++ .ref b :: rest) (hW : 2 * g.monitorRoom + (rest.map fun v => v.category).sum ≤ 8) (hdg : decode cc g.pc = .ok (.invokespecial index, 3)) (hf : cells + mc ≤ R.cells ∧ slots + ms ≤ R.slots) :
    vx_Run p l e R s m args below meth c H locs cells slots mc ms g rest (Qc (Value.ref b :: As).toArray) XC free := by
  have hK : vx_Back l R p e below s args y 3 8 (PreOf R mc ms Pc) (PostOf Qc mc ms free) (vx_Post XC mc ms free) := vx_callBack cw.1 hM hp.1
  obtain ⟨⟨-, -, -, -, -, -, hcode, -, hy, hlen, hl⟩, hy1, hin⟩ := cw
  obtain ⟨hx, hb, hml, ho, -⟩ := S
  have hPc := hp.2
  intro T hT X
  rcases vx_callI X hx (bytes := bytes) (maxL := maxL) ho hy1 hl hin hcode hy hK hg (hsize.trans hml.symm) (a := b) (argsL := As) (rest := rest) (fun sig h => hn.trans (hlen sig h)) hstack hW (by rw [hb]; exact hdg)
    (fun vm₁ hW₁ => ⟨hf.1, hf.2, hPc (T.setVm vm₁) hT hW₁⟩) with ⟨v, vm₁, ⟨U', l2, c2, s2⟩, hW₁, X', ⟨g', mk, t, L, e1, e2, hq, h1, hL, h2, h3⟩, st⟩ | ⟨q, vm₁, ⟨U', l2, c2, s2⟩, hW₁, X', ⟨g', mk, t, L, E, ce, e1, e2, hq, hce, hcv, hcl, h1, hL, h2, h3⟩, st⟩
  · dsimp only [Pt.U, Pt.locs, Pt.cells, Pt.slots] at X' e1 e2 h1 h2 h3 st
    subst h1; subst h2; subst h3
    exact Or.inl ⟨v, (T.setVm vm₁).calling g' mk (Value.ref b :: As).toArray, t, U', L, hT, X', hL, e1, e2, hq, st⟩
  · dsimp only [Pt.U, Pt.locs, Pt.cells, Pt.slots] at X' e1 e2 h1 h2 h3 st hcl
    subst h1; subst h2; subst h3
    exact Or.inr ⟨q, (T.setVm vm₁).calling g' mk (Value.ref b :: As).toArray, t, U', L, E, ce, hT, X', hL, e1, e2, hq, hce, hcv, vx_cls hW₁ hcl, st⟩
end VXIB
/-! ===== END ===== -/
/-! ===== BEGIN a private constructor of a nest mate that throws ===== -/
section VXIC
variable {p : Program} {l : Launch} {e : Env} {R : Room} {s : State} {m : MethodId} {args : Array Value} {below : List Frame} {meth : Method} {c : Code} {T : State} {locs : List Loc} {cells slots : Nat}
theorem vx_callIN (X : Stand p l e R s m args below meth c T locs cells slots) (hexec : p.tables.exec = Jvm.exec) {own : String} {index : Nat} {host : String} {y : MethodName} {bytes : ByteArray} {maxL : Nat}
    (hown : s.vm.findClass own = some m.cls) (hy1 : y.name = "<init>") (hlink : (Cond.methodLinkNest own index y host).before args s = true) (hinst : (Cond.instanceMethod y).before args s = true)
    (hcode : (Cond.code y bytes maxL none).before args s = true) (hy : y.cls ≠ "java/lang/invoke/MethodHandle" ∧ y.cls ≠ "java/lang/invoke/VarHandle")
    {W9 : Nat} {Pre : Pt → Array Value → Prop} {Post : Pt → Array Value → Option Value → Pt → Prop} {PostX : Pt → Array Value → Addr → Pt → Prop} (hK : vx_Back l R p e below s args y 3 W9 Pre Post PostX)
    {g : JFrame} (hg : g.method = m) (hsize : g.locals.size = c.maxLocals) {a : Addr} {argsL rest : List Value} (hlen : ∀ sig, parseMethodDescriptor y.desc = some sig → argsL.length = sig.parameters.length)
    (hstack : g.stack = argsL.reverse ++ .ref a :: rest) (hW : 2 * g.monitorRoom + (rest.map fun v => v.category).sum ≤ W9) (hdg : decode c.code g.pc = .ok (.invokespecial index, 3))
    (hpre : ∀ vm₁, s.WarmedH vm₁ → Pre ⟨T.setVm vm₁, locs, cells, slots⟩ (Value.ref a :: argsL).toArray) :
    (∃ (v : Option Value) (vm₁ : Vm) (B : Pt), s.WarmedH vm₁ ∧ Stand p l e R s m args below meth c B.U B.locs B.cells B.slots ∧ Post ⟨T.setVm vm₁, locs, cells, slots⟩ (Value.ref a :: argsL).toArray v B ∧
      ∀ target, Steps p.tables e below (B.U.setTop { g with pc := g.pc + 3, stack := v.toList ++ rest }) target → Steps p.tables e below (T.setTop g) target) ∨
    (∃ (q : Addr) (vm₁ : Vm) (B : Pt), s.WarmedH vm₁ ∧ Stand p l e R s m args below meth c B.U B.locs B.cells B.slots ∧ PostX ⟨T.setVm vm₁, locs, cells, slots⟩ (Value.ref a :: argsL).toArray q B ∧
      Steps p.tables e below (T.setTop g) ((B.U.setTop { g with stack := rest }).pushFrame (.throwing q))) := by
  subst hg
  have hpl : e.platform.magicAccessors = ({} : Platform).magicAccessors := by rw [X.admits.platform]
  obtain ⟨mk, methM, cM, kP, vm₁, hnamed, hmethM, hcodeM, -, hlocalsM, -, hkP, -, hW₁, hstep₁⟩ := Steps.initColdArgsNest (e := e) X.here hexec X.warmed hpl hown hy1 hy hlink hinst hcode (f := g) rfl hlen hstack hdg
  have X₁ := X.noted hW₁
  rcases hK g.method meth c ⟨T.setVm vm₁, locs, cells, slots⟩ { g with stack := rest } (.invokespecial index) mk (Value.ref a :: argsL).toArray X₁ rfl hsize hdg hW (X₁.named hnamed) (hpre vm₁ X₁.warmed) with ⟨v, B, X', hpost, hsteps⟩ | ⟨q, B, X', hpost, hsteps⟩
  · exact Or.inl ⟨v, vm₁, B, X₁.warmed, X', hpost, fun target h => hstep₁ _ fun acts => by rw [doInvoke_state]; exact hsteps.trans h⟩
  · exact Or.inr ⟨q, vm₁, B, X₁.warmed, X', hpost, hstep₁ _ fun acts => by rw [doInvoke_state]; exact hsteps⟩
end VXIC
section VXID
variable {p : Program} {l : Launch} {e : Env} {R : Room} {s : State} {m : MethodId} {args : Array Value} {below : List Frame} {meth : Method} {c : Code} {H : Heap} {locs : List Loc} {cells slots : Nat}
theorem vx_runIN {y : MethodName} {bytes cc : ByteArray} {maxL nL mc ms n index : Nat} {ws : List Cond} {rm : Room} {Pc : Array Value → State → Prop} {Qc : Array Value → State → Outcome → State → Prop} {XC : String → State → State → Prop} {free : Addr → Prop} {Ts : List Cond} {own host : String} {b : Addr} {As rest : List Value} {g : JFrame}
    (S : CallFix p m c cc nL s args Ts own) (hM : vx_Met l y ws rm Pc Qc XC mc ms free) (cw : va_CN R s args own index y host bytes maxL none ws rm mc ms n ∧ y.name = "<init>" ∧ (Cond.instanceMethod y).before args s = true) (hp : PreS s H Pc (.ref b :: As))
    (hg : g.method = m) (hn : As.length = n) (hsize : g.locals.size = nL) (hstack : g.stack = As.reverse ++ .ref b :: rest) (hW : 2 * g.monitorRoom + (rest.map fun v => v.category).sum ≤ 8) (hdg : decode cc g.pc = .ok (.invokespecial index, 3)) (hf : cells + mc ≤ R.cells ∧ slots + ms ≤ R.slots) :
    vx_Run p l e R s m args below meth c H locs cells slots mc ms g rest (Qc (Value.ref b :: As).toArray) XC free := by
  obtain ⟨⟨⟨hrc, hrs, hfr, hlo, hws, hcw⟩, hcode, hini, hy, hlen, hl⟩, hx1, hx2⟩ := cw
  have hK : vx_Back l R p e below s args y 3 8 (PreOf R mc ms Pc) (PostOf Qc mc ms free) (vx_Post XC mc ms free) := vx_back (bytes := bytes) (maxL := maxL) (ret := none) hM hp.1 hrc hrs hfr hlo hws hcw (fun a' U hW => word_at hW (Or.inl (by first | rfl | simp [Cond.onTables, Cond.keeps, Cond.steady])) hini)
  obtain ⟨hx, hb, hml, ho, -⟩ := S
  have hPc := hp.2
  intro T hT X
  rcases vx_callIN X hx (bytes := bytes) (maxL := maxL) ho hx1 hl hx2 hcode hy hK hg (hsize.trans hml.symm) (a := b) (argsL := As) (rest := rest) (fun sig h => hn.trans (hlen sig h)) hstack hW (by rw [hb]; exact hdg)
    (fun vm₁ hW₁ => ⟨hf.1, hf.2, hPc (T.setVm vm₁) hT hW₁⟩) with ⟨v, vm₁, ⟨U', l2, c2, s2⟩, hW₁, X', ⟨g', mk, t, L, e1, e2, hq, h1, hL, h2, h3⟩, st⟩ | ⟨q, vm₁, ⟨U', l2, c2, s2⟩, hW₁, X', ⟨g', mk, t, L, E, ce, e1, e2, hq, hce, hcv, hcl, h1, hL, h2, h3⟩, st⟩
  · dsimp only [Pt.U, Pt.locs, Pt.cells, Pt.slots] at X' e1 e2 h1 h2 h3 st
    subst h1; subst h2; subst h3
    exact Or.inl ⟨v, (T.setVm vm₁).calling g' mk (Value.ref b :: As).toArray, t, U', L, hT, X', hL, e1, e2, hq, st⟩
  · dsimp only [Pt.U, Pt.locs, Pt.cells, Pt.slots] at X' e1 e2 h1 h2 h3 st hcl
    subst h1; subst h2; subst h3
    exact Or.inr ⟨q, (T.setVm vm₁).calling g' mk (Value.ref b :: As).toArray, t, U', L, E, ce, hT, X', hL, e1, e2, hq, hce, hcv, vx_cls hW₁ hcl, st⟩
end VXID
/-! ===== END ===== -/
/-! ===== BEGIN a method of a class above, found by the receiver, that may throw (follows va_callVU, va_runU of this kit) ===== -/
section
variable {p : Program} {l : Launch} {e : Env} {R : Room} {s : State} {m : MethodId} {args : Array Value} {below : List Frame} {meth : Method} {c : Code} {H : Heap} {locs : List Loc} {cells slots : Nat}
theorem vx_callVU {T : State} {locs : List Loc} {cells slots : Nat} (X : Stand p l e R s m args below meth c T locs cells slots) (hexec : p.tables.exec = Jvm.exec) {own C owner : String} {index : Nat} {x y : MethodName} {bytes : ByteArray} {maxL : Nat} {ret : Option FieldType}
    (hown : s.vm.findClass own = some m.cls) (hlink : (Cond.methodLink own index x).before args s = true) (hsame : (Cond.sameMethod x.cls owner x.name x.desc).before args s = true)
    (hd0 : va_Decl s ⟨owner, x.name, x.desc⟩) (howner : owner ≠ "java/lang/invoke/MethodHandle" ∧ owner ≠ "java/lang/invoke/VarHandle")
    (hsel : (Cond.selects C x y).before args s = true) (hinst : (Cond.instanceMethod y).before args s = true) (hcode : (Cond.code y bytes maxL ret).before args s = true)
    {W : Nat} {Pre : Pt → Array Value → Prop} {Post : Pt → Array Value → Option Value → Pt → Prop} {PostX : Pt → Array Value → Addr → Pt → Prop} (hK : vx_Back l R p e below s args y 3 W Pre Post PostX)
    {b : Addr} {cellB : Cell} (hcell : T.heap[b]? = some cellB) (hobj : cellB.vm.isStatics = false) (hcls : s.vm.findClass C = some cellB.cls)
    {g : JFrame} (hg : g.method = m) (hsize : g.locals.size = c.maxLocals) {argsL rest : List Value} (hlen : ∀ sig, parseMethodDescriptor x.desc = some sig → argsL.length = sig.parameters.length)
    (hstack : g.stack = argsL.reverse ++ .ref b :: rest) (hW : 2 * g.monitorRoom + (rest.map fun v => v.category).sum ≤ W) (hdg : decode c.code g.pc = .ok (.invokevirtual index, 3))
    (hpre : ∀ vm₁, s.WarmedH vm₁ → Pre ⟨T.setVm vm₁, locs, cells, slots⟩ (Value.ref b :: argsL).toArray) :
    (∃ (v : Option Value) (vm₁ : Vm) (B : Pt), s.WarmedH vm₁ ∧ Stand p l e R s m args below meth c B.U B.locs B.cells B.slots ∧ Post ⟨T.setVm vm₁, locs, cells, slots⟩ (Value.ref b :: argsL).toArray v B ∧
      ∀ target, Steps p.tables e below (B.U.setTop { g with pc := g.pc + 3, stack := v.toList ++ rest }) target → Steps p.tables e below (T.setTop g) target) ∨
    (∃ (q : Addr) (vm₁ : Vm) (B : Pt), s.WarmedH vm₁ ∧ Stand p l e R s m args below meth c B.U B.locs B.cells B.slots ∧ PostX ⟨T.setVm vm₁, locs, cells, slots⟩ (Value.ref b :: argsL).toArray q B ∧
      Steps p.tables e below (T.setTop g) ((B.U.setTop { g with stack := rest }).pushFrame (.throwing q))) := by
  obtain ⟨r0, r, hn, hrm, hstR, hsigR⟩ := hd0
  obtain ⟨cn, ck, r1, hcn, hck, hni, hf, hn1⟩ := Cond.sameMethod_found hsame
  cases hn.symm.trans hn1
  obtain ⟨mk, methM, hnamed, hmethM, -, habM⟩ := Cond.instanceMethod_spec hinst
  obtain ⟨c2, r2, m2, q1, q2, q3, q4, kP, hkP, hkPi⟩ := Cond.selects_spec hsel
  cases hcls.symm.trans q1
  cases hf.symm.trans q2
  cases hnamed.symm.trans q3
  have hselP : selectMethod e.platform s.vm cellB.cls r0 = .method mk := by rw [Launch.admits_selectMethod X.admits]; exact q4
  obtain ⟨vm₁, X₁, hstep₁⟩ := X.invokevirtualUp hexec hown hlink hsame howner hn hrm hstR (a := b) (cell := cellB) hcell
    (fun z h => by rw [h] at hobj; cases hobj) hselP hmethM habM hkP hkPi (g := g) hg (argsL := argsL) (rest := rest) (hlen _ hsigR) hstack hdg
  rcases hK m meth c ⟨T.setVm vm₁, locs, cells, slots⟩ { g with stack := rest } (.invokevirtual index) mk (Value.ref b :: argsL).toArray X₁ hg hsize hdg hW (X₁.named hnamed) (hpre vm₁ X₁.warmed) with ⟨v, B, X', hpost, hsteps⟩ | ⟨q, B, X', hpost, hsteps⟩
  · exact Or.inl ⟨v, vm₁, B, X₁.warmed, X', hpost, fun target h => hstep₁ _ fun acts => by rw [doInvoke_state]; exact hsteps.trans h⟩
  · exact Or.inr ⟨q, vm₁, B, X₁.warmed, X', hpost, hstep₁ _ fun acts => by rw [doInvoke_state]; exact hsteps⟩
theorem vx_runU {x y : MethodName} {bytes cc : ByteArray} {maxL nL mc ms n index : Nat} {ret : Option FieldType} {ws : List Cond} {rm : Room} {Pc : Array Value → State → Prop} {Qc : Array Value → State → Outcome → State → Prop} {XC : String → State → State → Prop} {free : Addr → Prop} {Ts : List Cond} {own C owner : String} {b : Addr} {As rest : List Value} {g : JFrame}
    (S : CallFix p m c cc nL s args Ts own) (hM : vx_Met l y ws rm Pc Qc XC mc ms free) (cw : va_CU R s args own C owner index x y bytes maxL ret ws rm mc ms n) (hp : PreV s H C b Pc As)
    (hg : g.method = m) (hn : As.length = n) (hsize : g.locals.size = nL) (hstack : g.stack = As.reverse ++ .ref b :: rest) (hW : 2 * g.monitorRoom + (rest.map fun v => v.category).sum ≤ 8) (hdg : decode cc g.pc = .ok (.invokevirtual index, 3)) (hf : cells + mc ≤ R.cells ∧ slots + ms ≤ R.slots) :
    vx_Run p l e R s m args below meth c H locs cells slots mc ms g rest (Qc (Value.ref b :: As).toArray) XC free := by
  obtain ⟨hrc, hrs, hfr, hlo, hws, hcw⟩ := cw.back
  have hini := cw.init
  have hK : vx_Back l R p e below s args y 3 8 (PreOf R mc ms Pc) (PostOf Qc mc ms free) (vx_Post XC mc ms free) := vx_back (bytes := bytes) (maxL := maxL) (ret := ret) hM hp.1 hrc hrs hfr hlo hws hcw (fun a' U hW => word_at hW (Or.inl (by first | rfl | simp [Cond.onTables, Cond.keeps, Cond.steady])) hini)
  obtain ⟨hx, hb, hml, ho, -⟩ := S
  obtain ⟨-, ⟨cellB, hcB, hoB, hclB⟩, hPc⟩ := hp
  intro T hT X
  rcases vx_callVU X hx (C := C) (owner := owner) (bytes := bytes) (maxL := maxL) (ret := ret) ho cw.link cw.same cw.decl cw.notMH cw.sel cw.inst cw.code hK (by rw [hT]; exact hcB) hoB hclB hg (hsize.trans hml.symm) (argsL := As) (rest := rest) (fun sig h => hn.trans (cw.len sig h)) hstack hW (by rw [hb]; exact hdg)
    (fun vm₁ hW₁ => ⟨hf.1, hf.2, hPc (T.setVm vm₁) hT hW₁⟩) with ⟨v, vm₁, ⟨U', l2, c2, s2⟩, hW₁, X', ⟨g', mk, t, L, e1, e2, hq, h1, hL, h2, h3⟩, st⟩ | ⟨q, vm₁, ⟨U', l2, c2, s2⟩, hW₁, X', ⟨g', mk, t, L, E, ce, e1, e2, hq, hce, hcv, hcl, h1, hL, h2, h3⟩, st⟩
  · dsimp only [Pt.U, Pt.locs, Pt.cells, Pt.slots] at X' e1 e2 h1 h2 h3 st
    subst h1; subst h2; subst h3
    exact Or.inl ⟨v, (T.setVm vm₁).calling g' mk (Value.ref b :: As).toArray, t, U', L, hT, X', hL, e1, e2, hq, st⟩
  · dsimp only [Pt.U, Pt.locs, Pt.cells, Pt.slots] at X' e1 e2 h1 h2 h3 st hcl
    subst h1; subst h2; subst h3
    exact Or.inr ⟨q, (T.setVm vm₁).calling g' mk (Value.ref b :: As).toArray, t, U', L, E, ce, hT, X', hL, e1, e2, hq, hce, hcv, vx_cls hW₁ hcl, st⟩
end
/-! ===== END ===== -/
/-! ===== BEGIN super.m(..) that may throw (follows va_callSU, va_runSU) ===== -/
section
variable {p : Program} {l : Launch} {e : Env} {R : Room} {s : State} {m : MethodId} {args : Array Value} {below : List Frame} {meth : Method} {c : Code} {H : Heap} {locs : List Loc} {cells slots : Nat}
theorem vx_callSU {T : State} {locs : List Loc} {cells slots : Nat} (X : Stand p l e R s m args below meth c T locs cells slots) (hexec : p.tables.exec = Jvm.exec) {own : String} {index : Nat} {y : MethodName} {bytes : ByteArray} {maxL : Nat} {ret : Option FieldType}
    (hown : s.vm.findClass own = some m.cls) (hlink : (Cond.methodLink own index y).before args s = true) (hsame : (Cond.sameMethod y.cls y.cls y.name y.desc).before args s = true) (hsup : (Cond.superclass own y.cls).before args s = true)
    (hinst : (Cond.instanceMethod y).before args s = true) (hcode : (Cond.code y bytes maxL ret).before args s = true) (hno : y.name ≠ "<init>")
    {W : Nat} {Pre : Pt → Array Value → Prop} {Post : Pt → Array Value → Option Value → Pt → Prop} {PostX : Pt → Array Value → Addr → Pt → Prop} (hK : vx_Back l R p e below s args y 3 W Pre Post PostX)
    {b : Addr} {cellB : Cell} {kB : Class} (hcell : T.heap[b]? = some cellB) (hobj : cellB.vm.isStatics = false) (hkB : s.vm.classes[cellB.cls]? = some kB)
    {g : JFrame} (hg : g.method = m) (hsize : g.locals.size = c.maxLocals) {argsL rest : List Value} (hlen : ∀ sig, parseMethodDescriptor y.desc = some sig → argsL.length = sig.parameters.length)
    (hstack : g.stack = argsL.reverse ++ .ref b :: rest) (hW : 2 * g.monitorRoom + (rest.map fun v => v.category).sum ≤ W) (hdg : decode c.code g.pc = .ok (.invokespecial index, 3))
    (hpre : ∀ vm₁, s.WarmedH vm₁ → Pre ⟨T.setVm vm₁, locs, cells, slots⟩ (Value.ref b :: argsL).toArray) :
    (∃ (v : Option Value) (vm₁ : Vm) (B : Pt), s.WarmedH vm₁ ∧ Stand p l e R s m args below meth c B.U B.locs B.cells B.slots ∧ Post ⟨T.setVm vm₁, locs, cells, slots⟩ (Value.ref b :: argsL).toArray v B ∧
      ∀ target, Steps p.tables e below (B.U.setTop { g with pc := g.pc + 3, stack := v.toList ++ rest }) target → Steps p.tables e below (T.setTop g) target) ∨
    (∃ (q : Addr) (vm₁ : Vm) (B : Pt), s.WarmedH vm₁ ∧ Stand p l e R s m args below meth c B.U B.locs B.cells B.slots ∧ PostX ⟨T.setVm vm₁, locs, cells, slots⟩ (Value.ref b :: argsL).toArray q B ∧
      Steps p.tables e below (T.setTop g) ((B.U.setTop { g with stack := rest }).pushFrame (.throwing q))) := by
  obtain ⟨mk, methM, hnamed, hmethM, hstM, habM⟩ := Cond.instanceMethod_spec hinst
  obtain ⟨methM', cM, hmethM', -, -, -, -, -, -, hsigM⟩ := Cond.code_spec hnamed hcode
  cases hmethM.symm.trans hmethM'
  obtain ⟨ps, dk, kp, hps, hdk, hkp, hsuper, -, -, hnid⟩ := Cond.superclass_spec hown hsup
  have hn : s.methodNamed? ⟨y.cls, y.name, y.desc⟩ = some mk := hnamed
  have hpm : ps = mk.cls := Option.some.inj (hps.symm.trans (findClass_of_methodNamed hnamed))
  have hsub : s.vm.isSubclass ps mk.cls = true := by rw [hpm]; simp [Vm.isSubclass, Vm.isSubclassAux]
  obtain ⟨vm₁, X₁, hstep₁⟩ := X.invokespecialUp hexec hown hlink hsame hn hmethM hstM habM hno hdk hnid hps hsuper hsub (a := b) (cell := cellB) hcell
    (fun z h => by rw [h] at hobj; cases hobj) hkB (g := g) hg (argsL := argsL) (rest := rest) (hlen _ hsigM) hstack hdg
  rcases hK m meth c ⟨T.setVm vm₁, locs, cells, slots⟩ { g with stack := rest } (.invokespecial index) mk (Value.ref b :: argsL).toArray X₁ hg hsize hdg hW (X₁.named hnamed) (hpre vm₁ X₁.warmed) with ⟨v, B, X', hpost, hsteps⟩ | ⟨q, B, X', hpost, hsteps⟩
  · exact Or.inl ⟨v, vm₁, B, X₁.warmed, X', hpost, fun target h => hstep₁ _ (by rw [doInvoke_state]; exact hsteps.trans h)⟩
  · exact Or.inr ⟨q, vm₁, B, X₁.warmed, X', hpost, hstep₁ _ (by rw [doInvoke_state]; exact hsteps)⟩
theorem vx_runSU {y : MethodName} {bytes cc : ByteArray} {maxL nL mc ms n index : Nat} {ret : Option FieldType} {ws : List Cond} {rm : Room} {Pc : Array Value → State → Prop} {Qc : Array Value → State → Outcome → State → Prop} {XC : String → State → State → Prop} {free : Addr → Prop} {Ts : List Cond} {own C : String} {cC : ClassId} {b : Addr} {As rest : List Value} {g : JFrame}
    (hat : ClassAt s C cC) (S : CallFix p m c cc nL s args Ts own) (hM : vx_Met l y ws rm Pc Qc XC mc ms free) (cw : va_CS R s args own index y bytes maxL ret ws rm mc ms n) (hp : PreV s H C b Pc As)
    (hg : g.method = m) (hn : As.length = n) (hsize : g.locals.size = nL) (hstack : g.stack = As.reverse ++ .ref b :: rest) (hW : 2 * g.monitorRoom + (rest.map fun v => v.category).sum ≤ 8) (hdg : decode cc g.pc = .ok (.invokespecial index, 3)) (hf : cells + mc ≤ R.cells ∧ slots + ms ≤ R.slots) :
    vx_Run p l e R s m args below meth c H locs cells slots mc ms g rest (Qc (Value.ref b :: As).toArray) XC free := by
  obtain ⟨⟨hrc, hrs, hfr, hlo, hws, hcw⟩, hl1, hl2, hl3, hl4, hini, hcode, hno, hlen⟩ := cw
  have hK : vx_Back l R p e below s args y 3 8 (PreOf R mc ms Pc) (PostOf Qc mc ms free) (vx_Post XC mc ms free) := vx_back (bytes := bytes) (maxL := maxL) (ret := ret) hM hp.1 hrc hrs hfr hlo hws hcw (fun a' U hW => word_at hW (Or.inl (by first | rfl | simp [Cond.onTables, Cond.keeps, Cond.steady])) hini)
  obtain ⟨hx, hb, hml, ho, -⟩ := S
  obtain ⟨-, ⟨cellB, hcB, hoB, hclB⟩, hPc⟩ := hp
  obtain ⟨hfc, kB, hkB, -⟩ := hat
  cases hfc.symm.trans hclB
  intro T hT X
  rcases vx_callSU X hx (bytes := bytes) (maxL := maxL) (ret := ret) ho hl1 hl2 hl3 hl4 hcode hno hK (by rw [hT]; exact hcB) hoB hkB hg (hsize.trans hml.symm) (argsL := As) (rest := rest) (fun sig h => hn.trans (hlen sig h)) hstack hW (by rw [hb]; exact hdg)
    (fun vm₁ hW₁ => ⟨hf.1, hf.2, hPc (T.setVm vm₁) hT hW₁⟩) with ⟨v, vm₁, ⟨U', l2, c2, s2⟩, hW₁, X', ⟨g', mk, t, L, e1, e2, hq, h1, hL, h2, h3⟩, st⟩ | ⟨q, vm₁, ⟨U', l2, c2, s2⟩, hW₁, X', ⟨g', mk, t, L, E, ce, e1, e2, hq, hce, hcv, hcl, h1, hL, h2, h3⟩, st⟩
  · dsimp only [Pt.U, Pt.locs, Pt.cells, Pt.slots] at X' e1 e2 h1 h2 h3 st
    subst h1; subst h2; subst h3
    exact Or.inl ⟨v, (T.setVm vm₁).calling g' mk (Value.ref b :: As).toArray, t, U', L, hT, X', hL, e1, e2, hq, st⟩
  · dsimp only [Pt.U, Pt.locs, Pt.cells, Pt.slots] at X' e1 e2 h1 h2 h3 st hcl
    subst h1; subst h2; subst h3
    exact Or.inr ⟨q, (T.setVm vm₁).calling g' mk (Value.ref b :: As).toArray, t, U', L, E, ce, hT, X', hL, e1, e2, hq, hce, hcv, vx_cls hW₁ hcl, st⟩
end
/-! ===== END ===== -/
/-! ===== BEGIN a private method of a nest mate that may throw (follows va_callVN, va_callSN, va_runVN, va_runSN) ===== -/
section
variable {p : Program} {l : Launch} {e : Env} {R : Room} {s : State} {m : MethodId} {args : Array Value} {below : List Frame} {meth : Method} {c : Code} {H : Heap} {locs : List Loc} {cells slots : Nat}
variable {T : State}
theorem vx_callVN (X : Stand p l e R s m args below meth c T locs cells slots) (hexec : p.tables.exec = Jvm.exec) {own C : String} {index : Nat} {host : String} {y : MethodName} {bytes : ByteArray} {maxL : Nat} {ret : Option FieldType}
    (hown : s.vm.findClass own = some m.cls) (hlink : (Cond.methodLinkNest own index y host).before args s = true) (hinst : (Cond.instanceMethod y).before args s = true) (hsel : (Cond.selects C y y).before args s = true)
    (hcode : (Cond.code y bytes maxL ret).before args s = true) (hy : y.cls ≠ "java/lang/invoke/MethodHandle" ∧ y.cls ≠ "java/lang/invoke/VarHandle")
    {W : Nat} {Pre : Pt → Array Value → Prop} {Post : Pt → Array Value → Option Value → Pt → Prop} {PostX : Pt → Array Value → Addr → Pt → Prop} (hK : vx_Back l R p e below s args y 3 W Pre Post PostX)
    {b : Addr} {cellB : Cell} (hcell : T.heap[b]? = some cellB) (hobj : cellB.vm.isStatics = false) (hcls : s.vm.findClass C = some cellB.cls)
    {g : JFrame} (hg : g.method = m) (hsize : g.locals.size = c.maxLocals) {argsL rest : List Value} (hlen : ∀ sig, parseMethodDescriptor y.desc = some sig → argsL.length = sig.parameters.length)
    (hstack : g.stack = argsL.reverse ++ .ref b :: rest) (hW : 2 * g.monitorRoom + (rest.map fun v => v.category).sum ≤ W) (hdg : decode c.code g.pc = .ok (.invokevirtual index, 3))
    (hpre : ∀ vm₁, s.WarmedH vm₁ → Pre ⟨T.setVm vm₁, locs, cells, slots⟩ (Value.ref b :: argsL).toArray) :
    (∃ (v : Option Value) (vm₁ : Vm) (B : Pt), s.WarmedH vm₁ ∧ Stand p l e R s m args below meth c B.U B.locs B.cells B.slots ∧ Post ⟨T.setVm vm₁, locs, cells, slots⟩ (Value.ref b :: argsL).toArray v B ∧
      ∀ target, Steps p.tables e below (B.U.setTop { g with pc := g.pc + 3, stack := v.toList ++ rest }) target → Steps p.tables e below (T.setTop g) target) ∨
    (∃ (q : Addr) (vm₁ : Vm) (B : Pt), s.WarmedH vm₁ ∧ Stand p l e R s m args below meth c B.U B.locs B.cells B.slots ∧ PostX ⟨T.setVm vm₁, locs, cells, slots⟩ (Value.ref b :: argsL).toArray q B ∧
      Steps p.tables e below (T.setTop g) ((B.U.setTop { g with stack := rest }).pushFrame (.throwing q))) := by
  obtain ⟨mk, methM, hnamed, hmethM, hstM, habM⟩ := Cond.instanceMethod_spec hinst
  obtain ⟨methM', cM, hmethM', -, -, -, -, -, -, hsigM⟩ := Cond.code_spec hnamed hcode
  cases hmethM.symm.trans hmethM'
  obtain ⟨c2, r2, m2, q1, q2, q3, q4, kP, hkP, hkPi⟩ := Cond.selects_spec hsel
  cases hcls.symm.trans q1
  cases (State.methodFound?_of_named hnamed hy).symm.trans q2
  cases hnamed.symm.trans q3
  have hselP : selectMethod e.platform s.vm cellB.cls mk = .method mk := by rw [Launch.admits_selectMethod X.admits]; exact q4
  obtain ⟨vm₁, X₁, hstep₁⟩ := X.invokevirtualNest hexec hown hlink hnamed hmethM hstM hkP hkPi hy (a := b) (cell := cellB) hcell
    (fun z h => by rw [h] at hobj; cases hobj) hselP hmethM habM hkP hkPi (g := g) hg (argsL := argsL) (rest := rest) (hlen _ hsigM) hstack hdg
  rcases hK m meth c ⟨T.setVm vm₁, locs, cells, slots⟩ { g with stack := rest } (.invokevirtual index) mk (Value.ref b :: argsL).toArray X₁ hg hsize hdg hW (X₁.named hnamed) (hpre vm₁ X₁.warmed) with ⟨v, B, X', hpost, hsteps⟩ | ⟨q, B, X', hpost, hsteps⟩
  · exact Or.inl ⟨v, vm₁, B, X₁.warmed, X', hpost, fun target h => hstep₁ _ fun acts => by rw [doInvoke_state]; exact hsteps.trans h⟩
  · exact Or.inr ⟨q, vm₁, B, X₁.warmed, X', hpost, hstep₁ _ fun acts => by rw [doInvoke_state]; exact hsteps⟩
theorem vx_callSN (X : Stand p l e R s m args below meth c T locs cells slots) (hexec : p.tables.exec = Jvm.exec) {own : String} {index : Nat} {host : String} {y : MethodName} {bytes : ByteArray} {maxL : Nat} {ret : Option FieldType}
    (hown : s.vm.findClass own = some m.cls) (hlink : (Cond.methodLinkNest own index y host).before args s = true) (hstat : (Cond.static y).before args s = true) (hinit : (Cond.initialized y.cls).before args s = true)
    (hcode : (Cond.code y bytes maxL ret).before args s = true) (hy : y.cls ≠ "java/lang/invoke/MethodHandle" ∧ y.cls ≠ "java/lang/invoke/VarHandle")
    {W : Nat} {Pre : Pt → Array Value → Prop} {Post : Pt → Array Value → Option Value → Pt → Prop} {PostX : Pt → Array Value → Addr → Pt → Prop} (hK : vx_Back l R p e below s args y 3 W Pre Post PostX)
    {g : JFrame} (hg : g.method = m) (hsize : g.locals.size = c.maxLocals) {argsL rest : List Value} (hlen : ∀ sig, parseMethodDescriptor y.desc = some sig → argsL.length = sig.parameters.length)
    (hstack : g.stack = argsL.reverse ++ rest) (hW : 2 * g.monitorRoom + (rest.map fun v => v.category).sum ≤ W) (hdg : decode c.code g.pc = .ok (.invokestatic index, 3))
    (hpre : ∀ vm₁, s.WarmedH vm₁ → Pre ⟨T.setVm vm₁, locs, cells, slots⟩ argsL.toArray) :
    (∃ (v : Option Value) (vm₁ : Vm) (B : Pt), s.WarmedH vm₁ ∧ Stand p l e R s m args below meth c B.U B.locs B.cells B.slots ∧ Post ⟨T.setVm vm₁, locs, cells, slots⟩ argsL.toArray v B ∧
      ∀ target, Steps p.tables e below (B.U.setTop { g with pc := g.pc + 3, stack := v.toList ++ rest }) target → Steps p.tables e below (T.setTop g) target) ∨
    (∃ (q : Addr) (vm₁ : Vm) (B : Pt), s.WarmedH vm₁ ∧ Stand p l e R s m args below meth c B.U B.locs B.cells B.slots ∧ PostX ⟨T.setVm vm₁, locs, cells, slots⟩ argsL.toArray q B ∧
      Steps p.tables e below (T.setTop g) ((B.U.setTop { g with stack := rest }).pushFrame (.throwing q))) := by
  obtain ⟨mk, hnamed⟩ := Cond.code_named hcode
  obtain ⟨methM, cM, hmethM, -, -, -, -, -, -, hsigM⟩ := Cond.code_spec hnamed hcode
  have hstatic : methM.isStatic = true := Cond.static_spec hnamed hmethM hstat
  obtain ⟨kP, hkP, -⟩ := className_of_methodNamed hnamed
  have hinitP : kP.init = .initialized := Cond.initialized_spec (findClass_of_methodNamed hnamed) hkP hinit
  obtain ⟨vm₁, X₁, hstep₁⟩ := X.invokestaticNest hexec hown hlink hnamed hmethM hstatic hkP hinitP hy (g := g) hg (argsL := argsL) (rest := rest) (hlen _ hsigM) hstack hdg
  rcases hK m meth c ⟨T.setVm vm₁, locs, cells, slots⟩ { g with stack := rest } (.invokestatic index) mk argsL.toArray X₁ hg hsize hdg hW (X₁.named hnamed) (hpre vm₁ X₁.warmed) with ⟨v, B, X', hpost, hsteps⟩ | ⟨q, B, X', hpost, hsteps⟩
  · exact Or.inl ⟨v, vm₁, B, X₁.warmed, X', hpost, fun target h => hstep₁ _ fun acts => by rw [doInvoke_state]; exact hsteps.trans h⟩
  · exact Or.inr ⟨q, vm₁, B, X₁.warmed, X', hpost, hstep₁ _ fun acts => by rw [doInvoke_state]; exact hsteps⟩
theorem vx_runVN {y : MethodName} {bytes cc : ByteArray} {maxL nL mc ms n index : Nat} {ret : Option FieldType} {ws : List Cond} {rm : Room} {Pc : Array Value → State → Prop} {Qc : Array Value → State → Outcome → State → Prop} {XC : String → State → State → Prop} {free : Addr → Prop} {Ts : List Cond} {own C host : String} {b : Addr} {As rest : List Value} {g : JFrame}
    (S : CallFix p m c cc nL s args Ts own) (hM : vx_Met l y ws rm Pc Qc XC mc ms free) (cw : va_CN R s args own index y host bytes maxL ret ws rm mc ms n ∧ (Cond.instanceMethod y).before args s = true ∧ (Cond.selects C y y).before args s = true) (hp : PreV s H C b Pc As)
    (hg : g.method = m) (hn : As.length = n) (hsize : g.locals.size = nL) (hstack : g.stack = As.reverse ++ .ref b :: rest) (hW : 2 * g.monitorRoom + (rest.map fun v => v.category).sum ≤ 8) (hdg : decode cc g.pc = .ok (.invokevirtual index, 3)) (hf : cells + mc ≤ R.cells ∧ slots + ms ≤ R.slots) :
    vx_Run p l e R s m args below meth c H locs cells slots mc ms g rest (Qc (Value.ref b :: As).toArray) XC free := by
  obtain ⟨⟨⟨hrc, hrs, hfr, hlo, hws, hcw⟩, hcode, hini, hy, hlen, hl⟩, hx1, hx2⟩ := cw
  have hK : vx_Back l R p e below s args y 3 8 (PreOf R mc ms Pc) (PostOf Qc mc ms free) (vx_Post XC mc ms free) := vx_back (bytes := bytes) (maxL := maxL) (ret := ret) hM hp.1 hrc hrs hfr hlo hws hcw (fun a' U hW => word_at hW (Or.inl (by first | rfl | simp [Cond.onTables, Cond.keeps, Cond.steady])) hini)
  obtain ⟨hx, hb, hml, ho, -⟩ := S
  obtain ⟨-, ⟨cellB, hcB, hoB, hclB⟩, hPc⟩ := hp
  intro T hT X
  rcases vx_callVN X hx (C := C) (bytes := bytes) (maxL := maxL) (ret := ret) ho hl hx1 hx2 hcode hy hK (by rw [hT]; exact hcB) hoB hclB hg (hsize.trans hml.symm) (argsL := As) (rest := rest) (fun sig h => hn.trans (hlen sig h)) hstack hW (by rw [hb]; exact hdg)
    (fun vm₁ hW₁ => ⟨hf.1, hf.2, hPc (T.setVm vm₁) hT hW₁⟩) with ⟨v, vm₁, ⟨U', l2, c2, s2⟩, hW₁, X', ⟨g', mk, t, L, e1, e2, hq, h1, hL, h2, h3⟩, st⟩ | ⟨q, vm₁, ⟨U', l2, c2, s2⟩, hW₁, X', ⟨g', mk, t, L, E, ce, e1, e2, hq, hce, hcv, hcl, h1, hL, h2, h3⟩, st⟩
  · dsimp only [Pt.U, Pt.locs, Pt.cells, Pt.slots] at X' e1 e2 h1 h2 h3 st
    subst h1; subst h2; subst h3
    exact Or.inl ⟨v, (T.setVm vm₁).calling g' mk (Value.ref b :: As).toArray, t, U', L, hT, X', hL, e1, e2, hq, st⟩
  · dsimp only [Pt.U, Pt.locs, Pt.cells, Pt.slots] at X' e1 e2 h1 h2 h3 st hcl
    subst h1; subst h2; subst h3
    exact Or.inr ⟨q, (T.setVm vm₁).calling g' mk (Value.ref b :: As).toArray, t, U', L, E, ce, hT, X', hL, e1, e2, hq, hce, hcv, vx_cls hW₁ hcl, st⟩
theorem vx_runSN {y : MethodName} {bytes cc : ByteArray} {maxL nL mc ms n index : Nat} {ret : Option FieldType} {ws : List Cond} {rm : Room} {Pc : Array Value → State → Prop} {Qc : Array Value → State → Outcome → State → Prop} {XC : String → State → State → Prop} {free : Addr → Prop} {Ts : List Cond} {own host : String} {As rest : List Value} {g : JFrame}
    (S : CallFix p m c cc nL s args Ts own) (hM : vx_Met l y ws rm Pc Qc XC mc ms free) (cw : va_CN R s args own index y host bytes maxL ret ws rm mc ms n ∧ (Cond.static y).before args s = true ∧ True) (hp : PreS s H Pc As)
    (hg : g.method = m) (hn : As.length = n) (hsize : g.locals.size = nL) (hstack : g.stack = As.reverse ++ rest) (hW : 2 * g.monitorRoom + (rest.map fun v => v.category).sum ≤ 8) (hdg : decode cc g.pc = .ok (.invokestatic index, 3)) (hf : cells + mc ≤ R.cells ∧ slots + ms ≤ R.slots) :
    vx_Run p l e R s m args below meth c H locs cells slots mc ms g rest (Qc As.toArray) XC free := by
  obtain ⟨⟨⟨hrc, hrs, hfr, hlo, hws, hcw⟩, hcode, hini, hy, hlen, hl⟩, hx1, hx2⟩ := cw
  have hK : vx_Back l R p e below s args y 3 8 (PreOf R mc ms Pc) (PostOf Qc mc ms free) (vx_Post XC mc ms free) := vx_back (bytes := bytes) (maxL := maxL) (ret := ret) hM hp.1 hrc hrs hfr hlo hws hcw (fun a' U hW => word_at hW (Or.inl (by first | rfl | simp [Cond.onTables, Cond.keeps, Cond.steady])) hini)
  obtain ⟨hx, hb, hml, ho, -⟩ := S
  have hPc := hp.2
  intro T hT X
  rcases vx_callSN X hx (bytes := bytes) (maxL := maxL) (ret := ret) ho hl hx1 hini hcode hy hK hg (hsize.trans hml.symm) (argsL := As) (rest := rest) (fun sig h => hn.trans (hlen sig h)) hstack hW (by rw [hb]; exact hdg)
    (fun vm₁ hW₁ => ⟨hf.1, hf.2, hPc (T.setVm vm₁) hT hW₁⟩) with ⟨v, vm₁, ⟨U', l2, c2, s2⟩, hW₁, X', ⟨g', mk, t, L, e1, e2, hq, h1, hL, h2, h3⟩, st⟩ | ⟨q, vm₁, ⟨U', l2, c2, s2⟩, hW₁, X', ⟨g', mk, t, L, E, ce, e1, e2, hq, hce, hcv, hcl, h1, hL, h2, h3⟩, st⟩
  · dsimp only [Pt.U, Pt.locs, Pt.cells, Pt.slots] at X' e1 e2 h1 h2 h3 st
    subst h1; subst h2; subst h3
    exact Or.inl ⟨v, (T.setVm vm₁).calling g' mk As.toArray, t, U', L, hT, X', hL, e1, e2, hq, st⟩
  · dsimp only [Pt.U, Pt.locs, Pt.cells, Pt.slots] at X' e1 e2 h1 h2 h3 st hcl
    subst h1; subst h2; subst h3
    exact Or.inr ⟨q, (T.setVm vm₁).calling g' mk As.toArray, t, U', L, E, ce, hT, X', hL, e1, e2, hq, hce, hcv, vx_cls hW₁ hcl, st⟩
end
/-! ===== END ===== -/
/-! ===== BEGIN calls by an interface of methods that may throw (vx_callIF, vx_runF follow va_callIF, va_runF of this kit) ===== -/
section
variable {p : Program} {l : Launch} {e : Env} {R : Room} {s : State} {m : MethodId} {args : Array Value} {below : List Frame} {meth : Method} {c : Code} {H : Heap} {locs : List Loc} {cells slots : Nat} {Q : State → Prop}
variable {mc ms : Nat} {free : Addr → Prop} {A0 A1 : Nat → Prop} {H0 : Heap} {a : Array Value} {pc : Nat} {ls : Array Slot} {st0 rest : List Value}
def vx_Run5 (p : Program) (l : Launch) (e : Env) (R : Room) (s : State) (m : MethodId) (args : Array Value) (below : List Frame) (meth : Method) (c : Code) (H : Heap) (locs : List Loc) (cells slots mc ms : Nat) (g : JFrame) (rest : List Value) (Qa : State → Outcome → State → Prop) (XC : String → State → State → Prop) (free : Addr → Prop) : Prop :=
  ∀ T : State, T.heap = H → Stand p l e R s m args below meth c T locs cells slots →
    (∃ (v : Option Value) (st₀ t T' : State) (L : List Loc), st₀.heap = H ∧ Stand p l e R s m args below meth c T' (locs ++ L) (cells + mc) (slots + ms) ∧ (∀ q ∈ L, free q.base) ∧ T'.heap = t.heap ∧ T'.vm = t.vm ∧ Qa st₀ (.returned v) t ∧
      Goes p e below T g T' { g with pc := g.pc + 5, stack := v.toList ++ rest }) ∨
    (∃ (q : Addr) (st₀ t T' : State) (L : List Loc) (E : String) (ce : Cell), st₀.heap = H ∧ Stand p l e R s m args below meth c T' (locs ++ L) (cells + mc) (slots + ms) ∧ (∀ z ∈ L, free z.base) ∧ T'.heap = t.heap ∧ T'.vm = t.vm ∧ XC E st₀ t ∧ t.heap[q]? = some ce ∧ ce.vm = .none ∧ s.vm.findClass E = some ce.cls ∧
      Steps p.tables e below (T.setTop g) ((T'.setTop { g with stack := rest }).pushFrame (.throwing q)))
theorem vx_callIF {T : State} (X : Stand p l e R s m args below meth c T locs cells slots) (hexec : p.tables.exec = Jvm.exec) {own C : String} {index count : Nat} {x y : MethodName} {bytes : ByteArray} {maxL : Nat} {ret : Option FieldType}
    (hown : s.vm.findClass own = some m.cls) (hlink : (Cond.methodLink own index x).before args s = true) (hdecl : (Cond.declares x).before args s = true) (hface : (Cond.interfaceMethod x.cls x.cls x.name x.desc).before args s = true)
    (hsel : (Cond.selects C x y).before args s = true) (hinst : (Cond.instanceMethod y).before args s = true) (hpub : (Cond.publicMethod y).before args s = true) (hunh : (Cond.unhidden C x.name x.desc).before args s = true)
    (hcast : (Cond.castable C x.cls).before args s = true) (hcode : (Cond.code y bytes maxL ret).before args s = true) (hx : x.cls ≠ "java/lang/invoke/MethodHandle" ∧ x.cls ≠ "java/lang/invoke/VarHandle")
    {W9 : Nat} {Pre : Pt → Array Value → Prop} {Post : Pt → Array Value → Option Value → Pt → Prop} {PostX : Pt → Array Value → Addr → Pt → Prop} (hK : vx_Back l R p e below s args y 5 W9 Pre Post PostX)
    {b : Addr} {cellB : Cell} {kB : Class} (hcell : T.heap[b]? = some cellB) (hobj : cellB.vm.isStatics = false) (hcls : s.vm.findClass C = some cellB.cls) (hkB : s.vm.classes[cellB.cls]? = some kB)
    {g : JFrame} (hg : g.method = m) (hsize : g.locals.size = c.maxLocals) {argsL rest : List Value} (hlen : ∀ sig, parseMethodDescriptor x.desc = some sig → argsL.length = sig.parameters.length)
    (hstack : g.stack = argsL.reverse ++ .ref b :: rest) (hW : 2 * g.monitorRoom + (rest.map fun v => v.category).sum ≤ W9) (hdg : decode c.code g.pc = .ok (.invokeinterface index count, 5))
    (hpre : ∀ vm₁, s.WarmedH vm₁ → Pre ⟨T.setVm vm₁, locs, cells, slots⟩ (Value.ref b :: argsL).toArray) :
    (∃ (v : Option Value) (vm₁ : Vm) (B : Pt), s.WarmedH vm₁ ∧ Stand p l e R s m args below meth c B.U B.locs B.cells B.slots ∧ Post ⟨T.setVm vm₁, locs, cells, slots⟩ (Value.ref b :: argsL).toArray v B ∧
      ∀ target, Steps p.tables e below (B.U.setTop { g with pc := g.pc + 5, stack := v.toList ++ rest }) target → Steps p.tables e below (T.setTop g) target) ∨
    (∃ (q : Addr) (vm₁ : Vm) (B : Pt), s.WarmedH vm₁ ∧ Stand p l e R s m args below meth c B.U B.locs B.cells B.slots ∧ PostX ⟨T.setVm vm₁, locs, cells, slots⟩ (Value.ref b :: argsL).toArray q B ∧
      Steps p.tables e below (T.setTop g) ((B.U.setTop { g with stack := rest }).pushFrame (.throwing q))) := by
  obtain ⟨r0, r, hn, hrm, hstR, hsigR⟩ := Cond.declares_spec hdecl
  obtain ⟨cL, kL, r1, hcL, hkL, hiL, hfoundL, hn1⟩ := Cond.interfaceMethod_spec hface
  cases hn.symm.trans hn1
  have hr0cls : r0.cls = cL := Option.some.inj ((findClass_of_methodNamed hn).symm.trans hcL)
  obtain ⟨hnameR, hdescR⟩ := name_of_methodNamed hn hrm
  obtain ⟨mk, methM, hnamed, hmethM, -, habM⟩ := Cond.instanceMethod_spec hinst
  obtain ⟨c2, r2, m2, q1, q2, q3, q4, -⟩ := Cond.selects_spec hsel
  cases hcls.symm.trans q1
  cases hfoundL.symm.trans q2
  cases hnamed.symm.trans q3
  have hselP : selectMethod e.platform s.vm cellB.cls r0 = .method mk := by rw [Launch.admits_selectMethod X.admits]; exact q4
  have hpubM : hasFlag methM.accessFlags Acc.public_ = true := Cond.publicMethod_spec hnamed hmethM hpub
  have hway : ((cellB.cls :: s.vm.superclasses cellB.cls).any fun k => (declaredIn s.vm r.name r.desc k).any fun (_, z) => z.isPrivate || z.isStatic) = false := by
    rw [hnameR, hdescR]; exact Cond.unhidden_spec hcls hunh
  obtain ⟨c3, t3, w1, w2, w3⟩ := Cond.castable_spec hcast
  cases hcls.symm.trans w1
  cases hcL.symm.trans w2
  obtain ⟨vm₁, X₁, hstep₁⟩ := X.invokeinterface hexec hown hlink hn hrm hstR (by rw [hr0cls]; exact hkL) hiL hx (a := b) (cell := cellB) (kcell := kB) hcell
    (fun z h => by rw [h] at hobj; cases hobj) hkB (by rw [hr0cls]; exact w3) hselP hmethM hway hpubM habM (g := g) hg (argsL := argsL) (rest := rest) (hlen _ hsigR) hstack hdg
  rcases hK m meth c ⟨T.setVm vm₁, locs, cells, slots⟩ { g with stack := rest } (.invokeinterface index count) mk (Value.ref b :: argsL).toArray X₁ hg hsize hdg hW (X₁.named hnamed) (hpre vm₁ X₁.warmed) with ⟨v, B, X', hpost, hsteps⟩ | ⟨q, B, X', hpost, hsteps⟩
  · exact Or.inl ⟨v, vm₁, B, X₁.warmed, X', hpost, fun target h => hstep₁ _ fun acts => by rw [doInvoke_state]; exact hsteps.trans h⟩
  · exact Or.inr ⟨q, vm₁, B, X₁.warmed, X', hpost, hstep₁ _ fun acts => by rw [doInvoke_state]; exact hsteps⟩
theorem vx_runF {x y : MethodName} {bytes cc : ByteArray} {maxL nL mc ms n index count : Nat} {ret : Option FieldType} {ws : List Cond} {rm : Room} {Pc : Array Value → State → Prop} {Qc : Array Value → State → Outcome → State → Prop} {XC : String → State → State → Prop} {free : Addr → Prop} {Ts : List Cond} {own C : String} {cC : ClassId} {b : Addr} {As rest : List Value} {g : JFrame}
    (hat : ClassAt s C cC) (S : CallFix p m c cc nL s args Ts own) (hM : vx_Met l y ws rm Pc Qc XC mc ms free) (cw : va_CI R s args own C index x y bytes maxL ret ws rm mc ms n) (hp : PreV s H C b Pc As)
    (hg : g.method = m) (hn : As.length = n) (hsize : g.locals.size = nL) (hstack : g.stack = As.reverse ++ .ref b :: rest) (hW : 2 * g.monitorRoom + (rest.map fun v => v.category).sum ≤ 8) (hdg : decode cc g.pc = .ok (.invokeinterface index count, 5)) (hf : cells + mc ≤ R.cells ∧ slots + ms ≤ R.slots) :
    vx_Run5 p l e R s m args below meth c H locs cells slots mc ms g rest (Qc (Value.ref b :: As).toArray) XC free := by
  obtain ⟨hrc, hrs, hfr, hlo, hws, hcw⟩ := cw.back
  have hini := cw.init
  have hK : vx_Back l R p e below s args y 5 8 (PreOf R mc ms Pc) (PostOf Qc mc ms free) (vx_Post XC mc ms free) := vx_back (bytes := bytes) (maxL := maxL) (ret := ret) hM hp.1 hrc hrs hfr hlo hws hcw (fun a' U hW => word_at hW (Or.inl (by first | rfl | simp [Cond.onTables, Cond.keeps, Cond.steady])) hini)
  obtain ⟨hx, hb, hml, ho, -⟩ := S
  obtain ⟨-, ⟨cellB, hcB, hoB, hclB⟩, hPc⟩ := hp
  obtain ⟨hfc, kB, hkB, -⟩ := hat
  cases hfc.symm.trans hclB
  intro T hT X
  rcases vx_callIF X hx (C := C) (bytes := bytes) (maxL := maxL) (ret := ret) ho cw.link cw.decl cw.face cw.sel cw.inst cw.pub cw.unh cw.cast cw.code cw.notMH hK (by rw [hT]; exact hcB) hoB hclB hkB hg (hsize.trans hml.symm) (argsL := As) (rest := rest) (fun sig h => hn.trans (cw.len sig h)) hstack hW (by rw [hb]; exact hdg)
    (fun vm₁ hW₁ => ⟨hf.1, hf.2, hPc (T.setVm vm₁) hT hW₁⟩) with ⟨v, vm₁, ⟨U', l2, c2, s2⟩, hW₁, X', ⟨g', mk, t, L, e1, e2, hq, h1, hL, h2, h3⟩, st⟩ | ⟨q, vm₁, ⟨U', l2, c2, s2⟩, hW₁, X', ⟨g', mk, t, L, E, ce, e1, e2, hq, hce, hcv, hcl, h1, hL, h2, h3⟩, st⟩
  · dsimp only [Pt.U, Pt.locs, Pt.cells, Pt.slots] at X' e1 e2 h1 h2 h3 st
    subst h1; subst h2; subst h3
    exact Or.inl ⟨v, (T.setVm vm₁).calling g' mk (Value.ref b :: As).toArray, t, U', L, hT, X', hL, e1, e2, hq, st⟩
  · dsimp only [Pt.U, Pt.locs, Pt.cells, Pt.slots] at X' e1 e2 h1 h2 h3 st hcl
    subst h1; subst h2; subst h3
    exact Or.inr ⟨q, (T.setVm vm₁).calling g' mk (Value.ref b :: As).toArray, t, U', L, E, ce, hT, X', hL, e1, e2, hq, hce, hcv, vx_cls hW₁ hcl, st⟩
theorem vx_callFv {S SX : Type} {post : S → Prop} {px : SX → Prop} {B : S → State → Prop} {BX : String → SX → State → Prop} {AX : Nat → Prop} (hr : vx_Run5 p l e R s m args below meth c H locs cells slots mc ms (F0 m pc ls st0) rest (va_Qv post B A1 a) (vx_X px BX AX) free) (hS : va_S A0 H0 H locs) (hA : ∀ q, q < H.size → A1 q → A0 q) (hf : ∀ q, free q → A0 q) (hAX : ∀ q, q < H.size → AX q → A0 q)
    (kx : ∀ (E : String) (ce : Cell) (q9 : Addr) (u : SX) (t : State) (H1 : Heap) (locs1 : List Loc), t.heap = H1 → s.vm.Alike t.vm → px u → BX E u t → H.size ≤ H1.size → (∀ q : Nat, q < H.size → ¬ AX q → H1[q]? = H[q]?) → va_S A0 H0 H1 locs1 → H1[q9]? = some ce → ce.vm = .none → s.vm.findClass E = some ce.cls → vx_W p l e R s m args below meth c H1 locs1 (cells + mc) (slots + ms) Q (F0 m pc ls rest) q9)
    (kk : ∀ (u : S) (t : State) (H1 : Heap) (locs1 : List Loc), t.heap = H1 → s.vm.Alike t.vm → post u → B u t → H.size ≤ H1.size → (∀ q : Nat, q < H.size → ¬ A1 q → H1[q]? = H[q]?) → va_S A0 H0 H1 locs1 → W p l e R s m args below meth c H1 locs1 (cells + mc) (slots + ms) Q (F0 m (pc + 5) ls (rest))) : W p l e R s m args below meth c H locs cells slots Q (F0 m pc ls st0) := by
  intro T hT X
  rcases hr T hT X with ⟨v, st₀, t, T', L, h0, X', hL, e1, e2, ⟨⟨u, hv, hp, hb⟩, hF⟩, st⟩ | ⟨q, st₀, t, T', L, E, ce, h0, X', hL, e1, e2, ⟨u, hp, hb, hF⟩, hce, hcv, hcl, st⟩
  · cases hv
    obtain ⟨k1, k2, k3⟩ := vx_keep h0 e1 hS hA hf hL hF
    obtain ⟨t2, a1, b1⟩ := kk u t T'.heap (locs ++ L) e1.symm (by rw [← e2]; exact X'.warmed.alike) hp hb k1 k2 k3 T' rfl X'
    exact ⟨t2, st t2 a1, b1⟩
  · obtain ⟨k1, k2, k3⟩ := vx_keep h0 e1 hS hAX hf hL hF
    obtain ⟨t2, a1, b1⟩ := kx E ce q u t T'.heap (locs ++ L) e1.symm (by rw [← e2]; exact X'.warmed.alike) hp hb k1 k2 k3 (by rw [e1]; exact hce) hcv hcl T' rfl X'
    exact ⟨t2, st.trans a1, b1⟩
theorem vx_callFi {S SX : Type} {post : Int32 → S → Prop} {px : SX → Prop} {B : S → State → Prop} {BX : String → SX → State → Prop} {AX : Nat → Prop} (hr : vx_Run5 p l e R s m args below meth c H locs cells slots mc ms (F0 m pc ls st0) rest (va_Qi post B A1 a) (vx_X px BX AX) free) (hS : va_S A0 H0 H locs) (hA : ∀ q, q < H.size → A1 q → A0 q) (hf : ∀ q, free q → A0 q) (hAX : ∀ q, q < H.size → AX q → A0 q)
    (kx : ∀ (E : String) (ce : Cell) (q9 : Addr) (u : SX) (t : State) (H1 : Heap) (locs1 : List Loc), t.heap = H1 → s.vm.Alike t.vm → px u → BX E u t → H.size ≤ H1.size → (∀ q : Nat, q < H.size → ¬ AX q → H1[q]? = H[q]?) → va_S A0 H0 H1 locs1 → H1[q9]? = some ce → ce.vm = .none → s.vm.findClass E = some ce.cls → vx_W p l e R s m args below meth c H1 locs1 (cells + mc) (slots + ms) Q (F0 m pc ls rest) q9)
    (kk : ∀ (r : Int32) (u : S) (t : State) (H1 : Heap) (locs1 : List Loc), t.heap = H1 → s.vm.Alike t.vm → post r u → B u t → H.size ≤ H1.size → (∀ q : Nat, q < H.size → ¬ A1 q → H1[q]? = H[q]?) → va_S A0 H0 H1 locs1 → W p l e R s m args below meth c H1 locs1 (cells + mc) (slots + ms) Q (F0 m (pc + 5) ls (.int r :: rest))) : W p l e R s m args below meth c H locs cells slots Q (F0 m pc ls st0) := by
  intro T hT X
  rcases hr T hT X with ⟨v, st₀, t, T', L, h0, X', hL, e1, e2, ⟨⟨r, u, hv, hp, hb⟩, hF⟩, st⟩ | ⟨q, st₀, t, T', L, E, ce, h0, X', hL, e1, e2, ⟨u, hp, hb, hF⟩, hce, hcv, hcl, st⟩
  · cases hv
    obtain ⟨k1, k2, k3⟩ := vx_keep h0 e1 hS hA hf hL hF
    obtain ⟨t2, a1, b1⟩ := kk r u t T'.heap (locs ++ L) e1.symm (by rw [← e2]; exact X'.warmed.alike) hp hb k1 k2 k3 T' rfl X'
    exact ⟨t2, st t2 a1, b1⟩
  · obtain ⟨k1, k2, k3⟩ := vx_keep h0 e1 hS hAX hf hL hF
    obtain ⟨t2, a1, b1⟩ := kx E ce q u t T'.heap (locs ++ L) e1.symm (by rw [← e2]; exact X'.warmed.alike) hp hb k1 k2 k3 (by rw [e1]; exact hce) hcv hcl T' rfl X'
    exact ⟨t2, st.trans a1, b1⟩
theorem vx_callFl {S SX : Type} {post : Int64 → S → Prop} {px : SX → Prop} {B : S → State → Prop} {BX : String → SX → State → Prop} {AX : Nat → Prop} (hr : vx_Run5 p l e R s m args below meth c H locs cells slots mc ms (F0 m pc ls st0) rest (va_Ql post B A1 a) (vx_X px BX AX) free) (hS : va_S A0 H0 H locs) (hA : ∀ q, q < H.size → A1 q → A0 q) (hf : ∀ q, free q → A0 q) (hAX : ∀ q, q < H.size → AX q → A0 q)
    (kx : ∀ (E : String) (ce : Cell) (q9 : Addr) (u : SX) (t : State) (H1 : Heap) (locs1 : List Loc), t.heap = H1 → s.vm.Alike t.vm → px u → BX E u t → H.size ≤ H1.size → (∀ q : Nat, q < H.size → ¬ AX q → H1[q]? = H[q]?) → va_S A0 H0 H1 locs1 → H1[q9]? = some ce → ce.vm = .none → s.vm.findClass E = some ce.cls → vx_W p l e R s m args below meth c H1 locs1 (cells + mc) (slots + ms) Q (F0 m pc ls rest) q9)
    (kk : ∀ (r : Int64) (u : S) (t : State) (H1 : Heap) (locs1 : List Loc), t.heap = H1 → s.vm.Alike t.vm → post r u → B u t → H.size ≤ H1.size → (∀ q : Nat, q < H.size → ¬ A1 q → H1[q]? = H[q]?) → va_S A0 H0 H1 locs1 → W p l e R s m args below meth c H1 locs1 (cells + mc) (slots + ms) Q (F0 m (pc + 5) ls (.long r :: rest))) : W p l e R s m args below meth c H locs cells slots Q (F0 m pc ls st0) := by
  intro T hT X
  rcases hr T hT X with ⟨v, st₀, t, T', L, h0, X', hL, e1, e2, ⟨⟨r, u, hv, hp, hb⟩, hF⟩, st⟩ | ⟨q, st₀, t, T', L, E, ce, h0, X', hL, e1, e2, ⟨u, hp, hb, hF⟩, hce, hcv, hcl, st⟩
  · cases hv
    obtain ⟨k1, k2, k3⟩ := vx_keep h0 e1 hS hA hf hL hF
    obtain ⟨t2, a1, b1⟩ := kk r u t T'.heap (locs ++ L) e1.symm (by rw [← e2]; exact X'.warmed.alike) hp hb k1 k2 k3 T' rfl X'
    exact ⟨t2, st t2 a1, b1⟩
  · obtain ⟨k1, k2, k3⟩ := vx_keep h0 e1 hS hAX hf hL hF
    obtain ⟨t2, a1, b1⟩ := kx E ce q u t T'.heap (locs ++ L) e1.symm (by rw [← e2]; exact X'.warmed.alike) hp hb k1 k2 k3 (by rw [e1]; exact hce) hcv hcl T' rfl X'
    exact ⟨t2, st.trans a1, b1⟩
theorem vx_callFf {S SX : Type} {post : UInt32 → S → Prop} {px : SX → Prop} {B : S → State → Prop} {BX : String → SX → State → Prop} {AX : Nat → Prop} (hr : vx_Run5 p l e R s m args below meth c H locs cells slots mc ms (F0 m pc ls st0) rest (va_Qf post B A1 a) (vx_X px BX AX) free) (hS : va_S A0 H0 H locs) (hA : ∀ q, q < H.size → A1 q → A0 q) (hf : ∀ q, free q → A0 q) (hAX : ∀ q, q < H.size → AX q → A0 q)
    (kx : ∀ (E : String) (ce : Cell) (q9 : Addr) (u : SX) (t : State) (H1 : Heap) (locs1 : List Loc), t.heap = H1 → s.vm.Alike t.vm → px u → BX E u t → H.size ≤ H1.size → (∀ q : Nat, q < H.size → ¬ AX q → H1[q]? = H[q]?) → va_S A0 H0 H1 locs1 → H1[q9]? = some ce → ce.vm = .none → s.vm.findClass E = some ce.cls → vx_W p l e R s m args below meth c H1 locs1 (cells + mc) (slots + ms) Q (F0 m pc ls rest) q9)
    (kk : ∀ (r : UInt32) (u : S) (t : State) (H1 : Heap) (locs1 : List Loc), t.heap = H1 → s.vm.Alike t.vm → post r u → B u t → H.size ≤ H1.size → (∀ q : Nat, q < H.size → ¬ A1 q → H1[q]? = H[q]?) → va_S A0 H0 H1 locs1 → W p l e R s m args below meth c H1 locs1 (cells + mc) (slots + ms) Q (F0 m (pc + 5) ls (.float r :: rest))) : W p l e R s m args below meth c H locs cells slots Q (F0 m pc ls st0) := by
  intro T hT X
  rcases hr T hT X with ⟨v, st₀, t, T', L, h0, X', hL, e1, e2, ⟨⟨r, u, hv, hp, hb⟩, hF⟩, st⟩ | ⟨q, st₀, t, T', L, E, ce, h0, X', hL, e1, e2, ⟨u, hp, hb, hF⟩, hce, hcv, hcl, st⟩
  · cases hv
    obtain ⟨k1, k2, k3⟩ := vx_keep h0 e1 hS hA hf hL hF
    obtain ⟨t2, a1, b1⟩ := kk r u t T'.heap (locs ++ L) e1.symm (by rw [← e2]; exact X'.warmed.alike) hp hb k1 k2 k3 T' rfl X'
    exact ⟨t2, st t2 a1, b1⟩
  · obtain ⟨k1, k2, k3⟩ := vx_keep h0 e1 hS hAX hf hL hF
    obtain ⟨t2, a1, b1⟩ := kx E ce q u t T'.heap (locs ++ L) e1.symm (by rw [← e2]; exact X'.warmed.alike) hp hb k1 k2 k3 (by rw [e1]; exact hce) hcv hcl T' rfl X'
    exact ⟨t2, st.trans a1, b1⟩
theorem vx_callFd {S SX : Type} {post : UInt64 → S → Prop} {px : SX → Prop} {B : S → State → Prop} {BX : String → SX → State → Prop} {AX : Nat → Prop} (hr : vx_Run5 p l e R s m args below meth c H locs cells slots mc ms (F0 m pc ls st0) rest (va_Qd post B A1 a) (vx_X px BX AX) free) (hS : va_S A0 H0 H locs) (hA : ∀ q, q < H.size → A1 q → A0 q) (hf : ∀ q, free q → A0 q) (hAX : ∀ q, q < H.size → AX q → A0 q)
    (kx : ∀ (E : String) (ce : Cell) (q9 : Addr) (u : SX) (t : State) (H1 : Heap) (locs1 : List Loc), t.heap = H1 → s.vm.Alike t.vm → px u → BX E u t → H.size ≤ H1.size → (∀ q : Nat, q < H.size → ¬ AX q → H1[q]? = H[q]?) → va_S A0 H0 H1 locs1 → H1[q9]? = some ce → ce.vm = .none → s.vm.findClass E = some ce.cls → vx_W p l e R s m args below meth c H1 locs1 (cells + mc) (slots + ms) Q (F0 m pc ls rest) q9)
    (kk : ∀ (r : UInt64) (u : S) (t : State) (H1 : Heap) (locs1 : List Loc), t.heap = H1 → s.vm.Alike t.vm → post r u → B u t → H.size ≤ H1.size → (∀ q : Nat, q < H.size → ¬ A1 q → H1[q]? = H[q]?) → va_S A0 H0 H1 locs1 → W p l e R s m args below meth c H1 locs1 (cells + mc) (slots + ms) Q (F0 m (pc + 5) ls (.double r :: rest))) : W p l e R s m args below meth c H locs cells slots Q (F0 m pc ls st0) := by
  intro T hT X
  rcases hr T hT X with ⟨v, st₀, t, T', L, h0, X', hL, e1, e2, ⟨⟨r, u, hv, hp, hb⟩, hF⟩, st⟩ | ⟨q, st₀, t, T', L, E, ce, h0, X', hL, e1, e2, ⟨u, hp, hb, hF⟩, hce, hcv, hcl, st⟩
  · cases hv
    obtain ⟨k1, k2, k3⟩ := vx_keep h0 e1 hS hA hf hL hF
    obtain ⟨t2, a1, b1⟩ := kk r u t T'.heap (locs ++ L) e1.symm (by rw [← e2]; exact X'.warmed.alike) hp hb k1 k2 k3 T' rfl X'
    exact ⟨t2, st t2 a1, b1⟩
  · obtain ⟨k1, k2, k3⟩ := vx_keep h0 e1 hS hAX hf hL hF
    obtain ⟨t2, a1, b1⟩ := kx E ce q u t T'.heap (locs ++ L) e1.symm (by rw [← e2]; exact X'.warmed.alike) hp hb k1 k2 k3 (by rw [e1]; exact hce) hcv hcl T' rfl X'
    exact ⟨t2, st.trans a1, b1⟩
end
/-! ===== END ===== -/
/-! ===== BEGIN by an interface, a method with a table of its own that may throw (follows va_callIFW, va_runFW) ===== -/
section
variable {p : Program} {l : Launch} {e : Env} {R : Room} {s : State} {m : MethodId} {args : Array Value} {below : List Frame} {meth : Method} {c : Code} {H : Heap} {locs : List Loc} {cells slots : Nat}
theorem vx_callIFW {T : State} (X : Stand p l e R s m args below meth c T locs cells slots) (hexec : p.tables.exec = Jvm.exec) {own C : String} {index count : Nat} {x y : MethodName} {bytes : ByteArray} {maxL : Nat} {ret : Option FieldType} {hh : List (Nat × Nat × Nat × Nat)}
    (hown : s.vm.findClass own = some m.cls) (hlink : (Cond.methodLink own index x).before args s = true) (hdecl : (Cond.declares x).before args s = true) (hface : (Cond.interfaceMethod x.cls x.cls x.name x.desc).before args s = true)
    (hsel : (Cond.selects C x y).before args s = true) (hinst : (Cond.instanceMethod y).before args s = true) (hpub : (Cond.publicMethod y).before args s = true) (hunh : (Cond.unhidden C x.name x.desc).before args s = true)
    (hcast : (Cond.castable C x.cls).before args s = true) (hcode : (Cond.codeWith y bytes maxL ret hh).before args s = true) (hx : x.cls ≠ "java/lang/invoke/MethodHandle" ∧ x.cls ≠ "java/lang/invoke/VarHandle")
    {W : Nat} {Pre : Pt → Array Value → Prop} {Post : Pt → Array Value → Option Value → Pt → Prop} {PostX : Pt → Array Value → Addr → Pt → Prop} (hK : vx_Back l R p e below s args y 5 W Pre Post PostX)
    {b : Addr} {cellB : Cell} {kB : Class} (hcell : T.heap[b]? = some cellB) (hobj : cellB.vm.isStatics = false) (hcls : s.vm.findClass C = some cellB.cls) (hkB : s.vm.classes[cellB.cls]? = some kB)
    {g : JFrame} (hg : g.method = m) (hsize : g.locals.size = c.maxLocals) {argsL rest : List Value} (hlen : ∀ sig, parseMethodDescriptor x.desc = some sig → argsL.length = sig.parameters.length)
    (hstack : g.stack = argsL.reverse ++ .ref b :: rest) (hW : 2 * g.monitorRoom + (rest.map fun v => v.category).sum ≤ W) (hdg : decode c.code g.pc = .ok (.invokeinterface index count, 5))
    (hpre : ∀ vm₁, s.WarmedH vm₁ → Pre ⟨T.setVm vm₁, locs, cells, slots⟩ (Value.ref b :: argsL).toArray) :
    (∃ (v : Option Value) (vm₁ : Vm) (B : Pt), s.WarmedH vm₁ ∧ Stand p l e R s m args below meth c B.U B.locs B.cells B.slots ∧ Post ⟨T.setVm vm₁, locs, cells, slots⟩ (Value.ref b :: argsL).toArray v B ∧
      ∀ target, Steps p.tables e below (B.U.setTop { g with pc := g.pc + 5, stack := v.toList ++ rest }) target → Steps p.tables e below (T.setTop g) target) ∨
    (∃ (q : Addr) (vm₁ : Vm) (B : Pt), s.WarmedH vm₁ ∧ Stand p l e R s m args below meth c B.U B.locs B.cells B.slots ∧ PostX ⟨T.setVm vm₁, locs, cells, slots⟩ (Value.ref b :: argsL).toArray q B ∧
      Steps p.tables e below (T.setTop g) ((B.U.setTop { g with stack := rest }).pushFrame (.throwing q))) := by
  obtain ⟨r0, r, hn, hrm, hstR, hsigR⟩ := Cond.declares_spec hdecl
  obtain ⟨cL, kL, r1, hcL, hkL, hiL, hfoundL, hn1⟩ := Cond.interfaceMethod_spec hface
  cases hn.symm.trans hn1
  have hr0cls : r0.cls = cL := Option.some.inj ((findClass_of_methodNamed hn).symm.trans hcL)
  obtain ⟨hnameR, hdescR⟩ := name_of_methodNamed hn hrm
  obtain ⟨mk, methM, hnamed, hmethM, -, habM⟩ := Cond.instanceMethod_spec hinst
  obtain ⟨c2, r2, m2, q1, q2, q3, q4, -⟩ := Cond.selects_spec hsel
  cases hcls.symm.trans q1
  cases hfoundL.symm.trans q2
  cases hnamed.symm.trans q3
  have hselP : selectMethod e.platform s.vm cellB.cls r0 = .method mk := by rw [Launch.admits_selectMethod X.admits]; exact q4
  have hpubM : hasFlag methM.accessFlags Acc.public_ = true := Cond.publicMethod_spec hnamed hmethM hpub
  have hway : ((cellB.cls :: s.vm.superclasses cellB.cls).any fun k => (declaredIn s.vm r.name r.desc k).any fun (_, z) => z.isPrivate || z.isStatic) = false := by
    rw [hnameR, hdescR]; exact Cond.unhidden_spec hcls hunh
  obtain ⟨c3, t3, w1, w2, w3⟩ := Cond.castable_spec hcast
  cases hcls.symm.trans w1
  cases hcL.symm.trans w2
  obtain ⟨vm₁, X₁, hstep₁⟩ := X.invokeinterface hexec hown hlink hn hrm hstR (by rw [hr0cls]; exact hkL) hiL hx (a := b) (cell := cellB) (kcell := kB) hcell
    (fun z h => by rw [h] at hobj; cases hobj) hkB (by rw [hr0cls]; exact w3) hselP hmethM hway hpubM habM (g := g) hg (argsL := argsL) (rest := rest) (hlen _ hsigR) hstack hdg
  rcases hK m meth c ⟨T.setVm vm₁, locs, cells, slots⟩ { g with stack := rest } (.invokeinterface index count) mk (Value.ref b :: argsL).toArray X₁ hg hsize hdg hW (X₁.named hnamed) (hpre vm₁ X₁.warmed) with ⟨v, B, X', hpost, hsteps⟩ | ⟨q, B, X', hpost, hsteps⟩
  · exact Or.inl ⟨v, vm₁, B, X₁.warmed, X', hpost, fun target h => hstep₁ _ fun acts => by rw [doInvoke_state]; exact hsteps.trans h⟩
  · exact Or.inr ⟨q, vm₁, B, X₁.warmed, X', hpost, hstep₁ _ fun acts => by rw [doInvoke_state]; exact hsteps⟩
theorem vx_runFW {x y : MethodName} {bytes cc : ByteArray} {maxL nL mc ms n index count : Nat} {ret : Option FieldType} {hh : List (Nat × Nat × Nat × Nat)} {ws : List Cond} {rm : Room} {Pc : Array Value → State → Prop} {Qc : Array Value → State → Outcome → State → Prop} {XC : String → State → State → Prop} {free : Addr → Prop} {Ts : List Cond} {own C : String} {cC : ClassId} {b : Addr} {As rest : List Value} {g : JFrame}
    (hat : ClassAt s C cC) (S : CallFix p m c cc nL s args Ts own) (hM : vx_Met l y ws rm Pc Qc XC mc ms free) (cw : va_CIW R s args own C index x y bytes maxL ret hh ws rm mc ms n) (hp : PreV s H C b Pc As)
    (hg : g.method = m) (hn : As.length = n) (hsize : g.locals.size = nL) (hstack : g.stack = As.reverse ++ .ref b :: rest) (hW : 2 * g.monitorRoom + (rest.map fun v => v.category).sum ≤ 8) (hdg : decode cc g.pc = .ok (.invokeinterface index count, 5)) (hf : cells + mc ≤ R.cells ∧ slots + ms ≤ R.slots) :
    vx_Run5 p l e R s m args below meth c H locs cells slots mc ms g rest (Qc (Value.ref b :: As).toArray) XC free := by
  obtain ⟨hrc, hrs, hfr, hlo, hws, hcw⟩ := cw.back
  have hini := cw.init
  have hK : vx_Back l R p e below s args y 5 8 (PreOf R mc ms Pc) (PostOf Qc mc ms free) (vx_Post XC mc ms free) := vx_backW (hh := hh) (bytes := bytes) (maxL := maxL) (ret := ret) hM hp.1 hrc hrs hfr hlo hws hcw (fun a' U hW => word_at hW (Or.inl (by first | rfl | simp [Cond.onTables, Cond.keeps, Cond.steady])) hini)
  obtain ⟨hx, hb, hml, ho, -⟩ := S
  obtain ⟨-, ⟨cellB, hcB, hoB, hclB⟩, hPc⟩ := hp
  obtain ⟨hfc, kB, hkB, -⟩ := hat
  cases hfc.symm.trans hclB
  intro T hT X
  rcases vx_callIFW X hx (C := C) (hh := hh) (bytes := bytes) (maxL := maxL) (ret := ret) ho cw.link cw.decl cw.face cw.sel cw.inst cw.pub cw.unh cw.cast cw.code cw.notMH hK (by rw [hT]; exact hcB) hoB hclB hkB hg (hsize.trans hml.symm) (argsL := As) (rest := rest) (fun sig h => hn.trans (cw.len sig h)) hstack hW (by rw [hb]; exact hdg)
    (fun vm₁ hW₁ => ⟨hf.1, hf.2, hPc (T.setVm vm₁) hT hW₁⟩) with ⟨v, vm₁, ⟨U', l2, c2, s2⟩, hW₁, X', ⟨g', mk, t, L, e1, e2, hq, h1, hL, h2, h3⟩, st⟩ | ⟨q, vm₁, ⟨U', l2, c2, s2⟩, hW₁, X', ⟨g', mk, t, L, E, ce, e1, e2, hq, hce, hcv, hcl, h1, hL, h2, h3⟩, st⟩
  · dsimp only [Pt.U, Pt.locs, Pt.cells, Pt.slots] at X' e1 e2 h1 h2 h3 st
    subst h1; subst h2; subst h3
    exact Or.inl ⟨v, (T.setVm vm₁).calling g' mk (Value.ref b :: As).toArray, t, U', L, hT, X', hL, e1, e2, hq, st⟩
  · dsimp only [Pt.U, Pt.locs, Pt.cells, Pt.slots] at X' e1 e2 h1 h2 h3 st hcl
    subst h1; subst h2; subst h3
    exact Or.inr ⟨q, (T.setVm vm₁).calling g' mk (Value.ref b :: As).toArray, t, U', L, E, ce, hT, X', hL, e1, e2, hq, hce, hcv, vx_cls hW₁ hcl, st⟩
end
/-! ===== END ===== -/
/-! ===== BEGIN .. of methods that hand back an object of the pool ===== -/
section
variable {p : Program} {l : Launch} {e : Env} {R : Room} {s : State} {m : MethodId} {args : Array Value} {below : List Frame} {meth : Method} {c : Code} {H : Heap} {locs : List Loc} {cells slots : Nat} {Q : State → Prop}
variable {mc ms : Nat} {free : Addr → Prop} {A0 A1 : Nat → Prop} {H0 : Heap} {a : Array Value} {pc : Nat} {ls : Array Slot} {st0 rest : List Value}
theorem vx_callq {S SX : Type} {post : Option Nat → S → Prop} {px : SX → Prop} {B : S → State → Prop} {BX : String → SX → State → Prop} {AX : Nat → Prop} (hr : vx_Run p l e R s m args below meth c H locs cells slots mc ms (F0 m pc ls st0) rest (va_Qq post B A1 a) (vx_X px BX AX) free) (hS : va_S A0 H0 H locs) (hA : ∀ q, q < H.size → A1 q → A0 q) (hf : ∀ q, free q → A0 q) (hAX : ∀ q, q < H.size → AX q → A0 q)
    (kx : ∀ (E : String) (ce : Cell) (q9 : Addr) (u : SX) (t : State) (H1 : Heap) (locs1 : List Loc), t.heap = H1 → s.vm.Alike t.vm → px u → BX E u t → H.size ≤ H1.size → (∀ q : Nat, q < H.size → ¬ AX q → H1[q]? = H[q]?) → va_S A0 H0 H1 locs1 → H1[q9]? = some ce → ce.vm = .none → s.vm.findClass E = some ce.cls → vx_W p l e R s m args below meth c H1 locs1 (cells + mc) (slots + ms) Q (F0 m pc ls rest) q9)
    (kk : ∀ (r : Option Nat) (u : S) (t : State) (H1 : Heap) (locs1 : List Loc), t.heap = H1 → s.vm.Alike t.vm → post r u → B u t → H.size ≤ H1.size → (∀ q : Nat, q < H.size → ¬ A1 q → H1[q]? = H[q]?) → va_S A0 H0 H1 locs1 → W p l e R s m args below meth c H1 locs1 (cells + mc) (slots + ms) Q (F0 m (pc + 3) ls (va_rf r :: rest))) : W p l e R s m args below meth c H locs cells slots Q (F0 m pc ls st0) := by
  intro T hT X
  rcases hr T hT X with ⟨v, st₀, t, T', L, h0, X', hL, e1, e2, ⟨⟨r, u, hv, hp, hb⟩, hF⟩, st⟩ | ⟨q, st₀, t, T', L, E, ce, h0, X', hL, e1, e2, ⟨u, hp, hb, hF⟩, hce, hcv, hcl, st⟩
  · cases hv
    obtain ⟨k1, k2, k3⟩ := vx_keep h0 e1 hS hA hf hL hF
    obtain ⟨t2, a1, b1⟩ := kk r u t T'.heap (locs ++ L) e1.symm (by rw [← e2]; exact X'.warmed.alike) hp hb k1 k2 k3 T' rfl X'
    exact ⟨t2, st t2 a1, b1⟩
  · obtain ⟨k1, k2, k3⟩ := vx_keep h0 e1 hS hAX hf hL hF
    obtain ⟨t2, a1, b1⟩ := kx E ce q u t T'.heap (locs ++ L) e1.symm (by rw [← e2]; exact X'.warmed.alike) hp hb k1 k2 k3 (by rw [e1]; exact hce) hcv hcl T' rfl X'
    exact ⟨t2, st.trans a1, b1⟩
end
/-! ===== END ===== -/
/-! ===== BEGIN .. a constant ===== -/
section
variable {p : Program} {l : Launch} {e : Env} {R : Room} {s : State} {m : MethodId} {args : Array Value} {below : List Frame} {meth : Method} {c : Code} {H : Heap} {locs : List Loc} {cells slots : Nat} {Q : State → Prop}
variable {mc ms : Nat} {free : Addr → Prop} {A0 A1 : Nat → Prop} {H0 : Heap} {a : Array Value} {pc : Nat} {ls : Array Slot} {st0 rest : List Value}
theorem vx_calle {ad : Nat → Nat} {S SX : Type} {post : Option Nat → S → Prop} {px : SX → Prop} {B : S → State → Prop} {BX : String → SX → State → Prop} {AX : Nat → Prop} (hr : vx_Run p l e R s m args below meth c H locs cells slots mc ms (F0 m pc ls st0) rest (va_Qe ad post B A1 a) (vx_X px BX AX) free) (hS : va_S A0 H0 H locs) (hA : ∀ q, q < H.size → A1 q → A0 q) (hf : ∀ q, free q → A0 q) (hAX : ∀ q, q < H.size → AX q → A0 q)
    (kx : ∀ (E : String) (ce : Cell) (q9 : Addr) (u : SX) (t : State) (H1 : Heap) (locs1 : List Loc), t.heap = H1 → s.vm.Alike t.vm → px u → BX E u t → H.size ≤ H1.size → (∀ q : Nat, q < H.size → ¬ AX q → H1[q]? = H[q]?) → va_S A0 H0 H1 locs1 → H1[q9]? = some ce → ce.vm = .none → s.vm.findClass E = some ce.cls → vx_W p l e R s m args below meth c H1 locs1 (cells + mc) (slots + ms) Q (F0 m pc ls rest) q9)
    (kk : ∀ (r : Option Nat) (u : S) (t : State) (H1 : Heap) (locs1 : List Loc), t.heap = H1 → s.vm.Alike t.vm → post r u → B u t → H.size ≤ H1.size → (∀ q : Nat, q < H.size → ¬ A1 q → H1[q]? = H[q]?) → va_S A0 H0 H1 locs1 → W p l e R s m args below meth c H1 locs1 (cells + mc) (slots + ms) Q (F0 m (pc + 3) ls (va_re ad r :: rest))) : W p l e R s m args below meth c H locs cells slots Q (F0 m pc ls st0) := by
  intro T hT X
  rcases hr T hT X with ⟨v, st₀, t, T', L, h0, X', hL, e1, e2, ⟨⟨r, u, hv, hp, hb⟩, hF⟩, st⟩ | ⟨q, st₀, t, T', L, E, ce, h0, X', hL, e1, e2, ⟨u, hp, hb, hF⟩, hce, hcv, hcl, st⟩
  · cases hv
    obtain ⟨k1, k2, k3⟩ := vx_keep h0 e1 hS hA hf hL hF
    obtain ⟨t2, a1, b1⟩ := kk r u t T'.heap (locs ++ L) e1.symm (by rw [← e2]; exact X'.warmed.alike) hp hb k1 k2 k3 T' rfl X'
    exact ⟨t2, st t2 a1, b1⟩
  · obtain ⟨k1, k2, k3⟩ := vx_keep h0 e1 hS hAX hf hL hF
    obtain ⟨t2, a1, b1⟩ := kx E ce q u t T'.heap (locs ++ L) e1.symm (by rw [← e2]; exact X'.warmed.alike) hp hb k1 k2 k3 (by rw [e1]; exact hce) hcv hcl T' rfl X'
    exact ⟨t2, st.trans a1, b1⟩
end
/-! ===== END ===== -/
/-! ===== BEGIN .. by an interface, an object ===== -/
section
variable {p : Program} {l : Launch} {e : Env} {R : Room} {s : State} {m : MethodId} {args : Array Value} {below : List Frame} {meth : Method} {c : Code} {H : Heap} {locs : List Loc} {cells slots : Nat} {Q : State → Prop}
variable {mc ms : Nat} {free : Addr → Prop} {A0 A1 : Nat → Prop} {H0 : Heap} {a : Array Value} {pc : Nat} {ls : Array Slot} {st0 rest : List Value}
theorem vx_callFq {S SX : Type} {post : Option Nat → S → Prop} {px : SX → Prop} {B : S → State → Prop} {BX : String → SX → State → Prop} {AX : Nat → Prop} (hr : vx_Run5 p l e R s m args below meth c H locs cells slots mc ms (F0 m pc ls st0) rest (va_Qq post B A1 a) (vx_X px BX AX) free) (hS : va_S A0 H0 H locs) (hA : ∀ q, q < H.size → A1 q → A0 q) (hf : ∀ q, free q → A0 q) (hAX : ∀ q, q < H.size → AX q → A0 q)
    (kx : ∀ (E : String) (ce : Cell) (q9 : Addr) (u : SX) (t : State) (H1 : Heap) (locs1 : List Loc), t.heap = H1 → s.vm.Alike t.vm → px u → BX E u t → H.size ≤ H1.size → (∀ q : Nat, q < H.size → ¬ AX q → H1[q]? = H[q]?) → va_S A0 H0 H1 locs1 → H1[q9]? = some ce → ce.vm = .none → s.vm.findClass E = some ce.cls → vx_W p l e R s m args below meth c H1 locs1 (cells + mc) (slots + ms) Q (F0 m pc ls rest) q9)
    (kk : ∀ (r : Option Nat) (u : S) (t : State) (H1 : Heap) (locs1 : List Loc), t.heap = H1 → s.vm.Alike t.vm → post r u → B u t → H.size ≤ H1.size → (∀ q : Nat, q < H.size → ¬ A1 q → H1[q]? = H[q]?) → va_S A0 H0 H1 locs1 → W p l e R s m args below meth c H1 locs1 (cells + mc) (slots + ms) Q (F0 m (pc + 5) ls (va_rf r :: rest))) : W p l e R s m args below meth c H locs cells slots Q (F0 m pc ls st0) := by
  intro T hT X
  rcases hr T hT X with ⟨v, st₀, t, T', L, h0, X', hL, e1, e2, ⟨⟨r, u, hv, hp, hb⟩, hF⟩, st⟩ | ⟨q, st₀, t, T', L, E, ce, h0, X', hL, e1, e2, ⟨u, hp, hb, hF⟩, hce, hcv, hcl, st⟩
  · cases hv
    obtain ⟨k1, k2, k3⟩ := vx_keep h0 e1 hS hA hf hL hF
    obtain ⟨t2, a1, b1⟩ := kk r u t T'.heap (locs ++ L) e1.symm (by rw [← e2]; exact X'.warmed.alike) hp hb k1 k2 k3 T' rfl X'
    exact ⟨t2, st t2 a1, b1⟩
  · obtain ⟨k1, k2, k3⟩ := vx_keep h0 e1 hS hAX hf hL hF
    obtain ⟨t2, a1, b1⟩ := kx E ce q u t T'.heap (locs ++ L) e1.symm (by rw [← e2]; exact X'.warmed.alike) hp hb k1 k2 k3 (by rw [e1]; exact hce) hcv hcl T' rfl X'
    exact ⟨t2, st.trans a1, b1⟩
end
/-! ===== END ===== -/
/-! ===== BEGIN .. by an interface, a constant ===== -/
section
variable {p : Program} {l : Launch} {e : Env} {R : Room} {s : State} {m : MethodId} {args : Array Value} {below : List Frame} {meth : Method} {c : Code} {H : Heap} {locs : List Loc} {cells slots : Nat} {Q : State → Prop}
variable {mc ms : Nat} {free : Addr → Prop} {A0 A1 : Nat → Prop} {H0 : Heap} {a : Array Value} {pc : Nat} {ls : Array Slot} {st0 rest : List Value}
theorem vx_callFe {ad : Nat → Nat} {S SX : Type} {post : Option Nat → S → Prop} {px : SX → Prop} {B : S → State → Prop} {BX : String → SX → State → Prop} {AX : Nat → Prop} (hr : vx_Run5 p l e R s m args below meth c H locs cells slots mc ms (F0 m pc ls st0) rest (va_Qe ad post B A1 a) (vx_X px BX AX) free) (hS : va_S A0 H0 H locs) (hA : ∀ q, q < H.size → A1 q → A0 q) (hf : ∀ q, free q → A0 q) (hAX : ∀ q, q < H.size → AX q → A0 q)
    (kx : ∀ (E : String) (ce : Cell) (q9 : Addr) (u : SX) (t : State) (H1 : Heap) (locs1 : List Loc), t.heap = H1 → s.vm.Alike t.vm → px u → BX E u t → H.size ≤ H1.size → (∀ q : Nat, q < H.size → ¬ AX q → H1[q]? = H[q]?) → va_S A0 H0 H1 locs1 → H1[q9]? = some ce → ce.vm = .none → s.vm.findClass E = some ce.cls → vx_W p l e R s m args below meth c H1 locs1 (cells + mc) (slots + ms) Q (F0 m pc ls rest) q9)
    (kk : ∀ (r : Option Nat) (u : S) (t : State) (H1 : Heap) (locs1 : List Loc), t.heap = H1 → s.vm.Alike t.vm → post r u → B u t → H.size ≤ H1.size → (∀ q : Nat, q < H.size → ¬ A1 q → H1[q]? = H[q]?) → va_S A0 H0 H1 locs1 → W p l e R s m args below meth c H1 locs1 (cells + mc) (slots + ms) Q (F0 m (pc + 5) ls (va_re ad r :: rest))) : W p l e R s m args below meth c H locs cells slots Q (F0 m pc ls st0) := by
  intro T hT X
  rcases hr T hT X with ⟨v, st₀, t, T', L, h0, X', hL, e1, e2, ⟨⟨r, u, hv, hp, hb⟩, hF⟩, st⟩ | ⟨q, st₀, t, T', L, E, ce, h0, X', hL, e1, e2, ⟨u, hp, hb, hF⟩, hce, hcv, hcl, st⟩
  · cases hv
    obtain ⟨k1, k2, k3⟩ := vx_keep h0 e1 hS hA hf hL hF
    obtain ⟨t2, a1, b1⟩ := kk r u t T'.heap (locs ++ L) e1.symm (by rw [← e2]; exact X'.warmed.alike) hp hb k1 k2 k3 T' rfl X'
    exact ⟨t2, st t2 a1, b1⟩
  · obtain ⟨k1, k2, k3⟩ := vx_keep h0 e1 hS hAX hf hL hF
    obtain ⟨t2, a1, b1⟩ := kx E ce q u t T'.heap (locs ++ L) e1.symm (by rw [← e2]; exact X'.warmed.alike) hp hb k1 k2 k3 (by rw [e1]; exact hce) hcv hcl T' rfl X'
    exact ⟨t2, st.trans a1, b1⟩
end
/-! ===== END ===== -/
/-! ===== BEGIN what the machine throws by itself: null at a field, at athrow ===== -/
section VXM2
variable {p : Program} {l : Launch} {e : Env} {R : Room} {s : State} {m : MethodId} {args : Array Value} {below : List Frame} {meth : Method} {c : Code} {H : Heap} {locs : List Loc} {cells slots : Nat}
variable {Q : State → Prop} {cc : ByteArray} {pc : Nat} {ls : Array Slot} {rest : List Value}
theorem vx_getfN {D cl tys} {own ref C : String} {T : u_T} {N ci index : Nat} {Ts : List Cond} (hexec : p.tables.exec = Jvm.exec) (hb : c.code = cc) (hts : ∀ w ∈ Ts, w.before args s = true) (hin : ∀ w ∈ u_ws C T N, w ∈ Ts) (hown : s.vm.findClass own = some m.cls) (hK : va_K D cl tys s) (hc : cl[ci]? = some (C, T, N)) (k : Nat) (hk : k < N) (hlink : (Cond.fieldLink own index ref (T k).2.1 (T k).2.2.1).before args s = true) (hsame : ∀ x, s.fieldFound? (T k).1 (T k).2.1 (T k).2.2.1 = some x → s.fieldFound? ref (T k).2.1 (T k).2.2.1 = some x) (hdg : decode cc pc = .ok (.getfield index, 3)) (kk : vx_NoteN p l e R s m args below meth c H locs cells slots Q (F0 m pc ls rest)) : W p l e R s m args below meth c H locs cells slots Q (F0 m pc ls (.null :: rest)) := by
  obtain ⟨hS, hfc, kC, hkC, -⟩ := hK.1 ci _ hc
  obtain ⟨cf, kf, fi, f, hi, -⟩ := hS k hk
  intro U hU X
  obtain ⟨vm', X1, st1⟩ := X.getfieldNull hexec hown hlink (hsame _ hi) (u_facts hfc hkC (u_lays hts hin hk) hi).1 (g := F0 m pc ls (.null :: rest)) rfl (rest := rest) rfl (by rw [hb]; exact hdg)
  obtain ⟨t, st, q⟩ := kk (U.setVm vm') hU X1
  exact ⟨t, st1 t st, q⟩
theorem vx_getfNN {D cl tys} {own ref C host : String} {T : u_T} {N ci index : Nat} {Ts : List Cond} (hexec : p.tables.exec = Jvm.exec) (hb : c.code = cc) (hts : ∀ w ∈ Ts, w.before args s = true) (hin : ∀ w ∈ u_ws C T N, w ∈ Ts) (hown : s.vm.findClass own = some m.cls) (hK : va_K D cl tys s) (hc : cl[ci]? = some (C, T, N)) (k : Nat) (hk : k < N) (hlink : (Cond.fieldLinkNest own index ref (T k).2.1 (T k).2.2.1 host).before args s = true) (hsame : ∀ x, s.fieldFound? (T k).1 (T k).2.1 (T k).2.2.1 = some x → s.fieldFound? ref (T k).2.1 (T k).2.2.1 = some x) (hdg : decode cc pc = .ok (.getfield index, 3)) (kk : vx_NoteN p l e R s m args below meth c H locs cells slots Q (F0 m pc ls rest)) : W p l e R s m args below meth c H locs cells slots Q (F0 m pc ls (.null :: rest)) := by
  obtain ⟨hS, hfc, kC, hkC, -⟩ := hK.1 ci _ hc
  obtain ⟨cf, kf, fi, f, hi, -⟩ := hS k hk
  intro U hU X
  obtain ⟨vm', X1, st1⟩ := X.getfieldNullNest hexec hown hlink (hsame _ hi) (u_facts hfc hkC (u_lays hts hin hk) hi).1 (g := F0 m pc ls (.null :: rest)) rfl (rest := rest) rfl (by rw [hb]; exact hdg)
  obtain ⟨t, st, q⟩ := kk (U.setVm vm') hU X1
  exact ⟨t, st1 t st, q⟩
theorem vx_putfN {D cl tys} {own ref C : String} {T : u_T} {N ci index : Nat} {Ts : List Cond} (hexec : p.tables.exec = Jvm.exec) (hb : c.code = cc) (hts : ∀ w ∈ Ts, w.before args s = true) (hin : ∀ w ∈ u_ws C T N, w ∈ Ts) (hown : s.vm.findClass own = some m.cls) (hK : va_K D cl tys s) (hc : cl[ci]? = some (C, T, N)) (k : Nat) (hk : k < N) (hlink : (Cond.fieldLink own index ref (T k).2.1 (T k).2.2.1).before args s = true) (hsame : ∀ x, s.fieldFound? (T k).1 (T k).2.1 (T k).2.2.1 = some x → s.fieldFound? ref (T k).2.1 (T k).2.2.1 = some x) (hfin : (T k).2.2.2 = false) {v : Value} (hdg : decode cc pc = .ok (.putfield index, 3)) (kk : vx_NoteN p l e R s m args below meth c H locs cells slots Q (F0 m pc ls rest)) : W p l e R s m args below meth c H locs cells slots Q (F0 m pc ls (v :: .null :: rest)) := by
  obtain ⟨hS, hfc, kC, hkC, -⟩ := hK.1 ci _ hc
  obtain ⟨cf, kf, fi, f, hi, -⟩ := hS k hk
  have hlay := hts _ (hin _ (u_in_lay hk))
  unfold u_lay at hlay
  rw [if_neg (by rw [hfin]; decide)] at hlay
  obtain ⟨c9, k9, cf9, kf9, fi9, f9, -, -, hi9, hst9, hnf9, -⟩ := Cond.lays_spec hlay
  cases hi.symm.trans hi9
  intro U hU X
  obtain ⟨vm', X1, st1⟩ := X.putfieldNull hexec hown hlink (hsame _ hi) hst9 hnf9 (g := F0 m pc ls (v :: .null :: rest)) rfl (v := v) (rest := rest) rfl (by rw [hb]; exact hdg)
  obtain ⟨t, st, q⟩ := kk (U.setVm vm') hU X1
  exact ⟨t, st1 t st, q⟩
theorem vx_putfNN {D cl tys} {own ref C host : String} {T : u_T} {N ci index : Nat} {Ts : List Cond} (hexec : p.tables.exec = Jvm.exec) (hb : c.code = cc) (hts : ∀ w ∈ Ts, w.before args s = true) (hin : ∀ w ∈ u_ws C T N, w ∈ Ts) (hown : s.vm.findClass own = some m.cls) (hK : va_K D cl tys s) (hc : cl[ci]? = some (C, T, N)) (k : Nat) (hk : k < N) (hlink : (Cond.fieldLinkNest own index ref (T k).2.1 (T k).2.2.1 host).before args s = true) (hsame : ∀ x, s.fieldFound? (T k).1 (T k).2.1 (T k).2.2.1 = some x → s.fieldFound? ref (T k).2.1 (T k).2.2.1 = some x) (hfin : (T k).2.2.2 = false) {v : Value} (hdg : decode cc pc = .ok (.putfield index, 3)) (kk : vx_NoteN p l e R s m args below meth c H locs cells slots Q (F0 m pc ls rest)) : W p l e R s m args below meth c H locs cells slots Q (F0 m pc ls (v :: .null :: rest)) := by
  obtain ⟨hS, hfc, kC, hkC, -⟩ := hK.1 ci _ hc
  obtain ⟨cf, kf, fi, f, hi, -⟩ := hS k hk
  have hlay := hts _ (hin _ (u_in_lay hk))
  unfold u_lay at hlay
  rw [if_neg (by rw [hfin]; decide)] at hlay
  obtain ⟨c9, k9, cf9, kf9, fi9, f9, -, -, hi9, hst9, hnf9, -⟩ := Cond.lays_spec hlay
  cases hi.symm.trans hi9
  intro U hU X
  obtain ⟨vm', X1, st1⟩ := X.putfieldNullNest hexec hown hlink (hsame _ hi) hst9 hnf9 (g := F0 m pc ls (v :: .null :: rest)) rfl (v := v) (rest := rest) rfl (by rw [hb]; exact hdg)
  obtain ⟨t, st, q⟩ := kk (U.setVm vm') hU X1
  exact ⟨t, st1 t st, q⟩
theorem vx_athrowN (hexec : p.tables.exec = Jvm.exec) (hb : c.code = cc) (hdg : decode cc pc = .ok (.athrow, 1)) (k : vx_NoteN p l e R s m args below meth c H locs cells slots Q (F0 m pc ls rest)) : W p l e R s m args below meth c H locs cells slots Q (F0 m pc ls (.null :: rest)) := by
  intro T hT X
  obtain ⟨t, st, q⟩ := k T hT X
  exact ⟨t, X.athrowNull hexec (g := F0 m pc ls (.null :: rest)) rfl (rest := rest) rfl (by rw [hb]; exact hdg) t st, q⟩
end VXM2
/-! ===== END ===== -/
end
section
/-! ===== BEGIN printed: names, fields, word lists, decode rows ===== -/
def RX0 : String := "Obligary$Calendar"
def TX0 : u_T := fun k => match k with
  | 0 => ("Obligary$Calendar", "holidays", "[Z", true)
  | 1 => ("Obligary$Calendar", "numbersFromStart", "[I", true)
  | _ => ("Obligary$Calendar", "numbersFromEnd", "[I", true)
def tyX0 : Nat → FieldType := fun k => match k with
  | 0 => .array .boolean
  | 1 => .array .int
  | _ => .array .int
abbrev wsX00 : List Cond := u_ws RX0 TX0 3
theorem nmX0 : ∀ a, a < 3 → ∀ b, b < 3 → a ≠ b → (TX0 a).2.1 ≠ (TX0 b).2.1 := by decide +kernel
theorem tyX0_ok : ∀ k, k < 3 → parseFieldDescriptor (TX0 k).2.2.1 = some (tyX0 k) := by decide +kernel
abbrev cX0_init : ByteArray := prog_2_method_1_code
def yX0_init : MethodName := ⟨RX0, "<init>", "()V"⟩
abbrev cX0_toggleHoliday : ByteArray := prog_2_method_2_code
def yX0_toggleHoliday : MethodName := ⟨RX0, "toggleHoliday", "(I)Z"⟩
abbrev cX0_works : ByteArray := prog_2_method_3_code
def yX0_works : MethodName := ⟨RX0, "works", "(I)Z"⟩
abbrev cX0_numberFromStart : ByteArray := prog_2_method_4_code
def yX0_numberFromStart : MethodName := ⟨RX0, "numberFromStart", "(I)I"⟩
abbrev cX0_numberFromEnd : ByteArray := prog_2_method_5_code
def yX0_numberFromEnd : MethodName := ⟨RX0, "numberFromEnd", "(I)I"⟩
abbrev cX0_numberMonthOf : ByteArray := prog_2_method_6_code
def yX0_numberMonthOf : MethodName := ⟨RX0, "numberMonthOf", "(I)V"⟩
def RX1 : String := "Obligary$Rule"
def TX1 : u_T := fun k => match k with
  | 0 => ("Obligary$Rule", "kind", "I", true)
  | 1 => ("Obligary$Rule", "n", "I", true)
  | 2 => ("Obligary$Rule", "first", "I", true)
  | 3 => ("Obligary$Rule", "effort", "I", true)
  | 4 => ("Obligary$Rule", "validity", "I", true)
  | 5 => ("Obligary$Rule", "shift", "I", false)
  | 6 => ("Obligary$Rule", "required", "I", false)
  | 7 => ("Obligary$Rule", "needed", "I", false)
  | 8 => ("Obligary$Rule", "finished", "I", false)
  | 9 => ("Obligary$Rule", "evidenceFrom", "I", false)
  | 10 => ("Obligary$Rule", "foreseenDay", "I", false)
  | _ => ("Obligary$Rule", "dueDays", "[Z", true)
def tyX1 : Nat → FieldType := fun k => match k with
  | 0 => .int
  | 1 => .int
  | 2 => .int
  | 3 => .int
  | 4 => .int
  | 5 => .int
  | 6 => .int
  | 7 => .int
  | 8 => .int
  | 9 => .int
  | 10 => .int
  | _ => .array .boolean
abbrev wsX10 : List Cond := u_ws RX1 TX1 12
theorem nmX1 : ∀ a, a < 12 → ∀ b, b < 12 → a ≠ b → (TX1 a).2.1 ≠ (TX1 b).2.1 := by decide +kernel
theorem tyX1_ok : ∀ k, k < 12 → parseFieldDescriptor (TX1 k).2.2.1 = some (tyX1 k) := by decide +kernel
abbrev cX1_init : ByteArray := prog_3_method_1_code
def yX1_init : MethodName := ⟨RX1, "<init>", "(IIIIII)V"⟩
abbrev cX1_requires : ByteArray := prog_3_method_2_code
def yX1_requires : MethodName := ⟨RX1, "requires", "(I)Z"⟩
abbrev cX1_needs : ByteArray := prog_3_method_3_code
def yX1_needs : MethodName := ⟨RX1, "needs", "(I)Z"⟩
abbrev cX1_layDueDays : ByteArray := prog_3_method_4_code
def yX1_layDueDays : MethodName := ⟨RX1, "layDueDays", "(LObligary$Calendar;)V"⟩
abbrev cX1_isDueOn : ByteArray := prog_3_method_5_code
def yX1_isDueOn : MethodName := ⟨RX1, "isDueOn", "(I)Z"⟩
abbrev cX1_dayOfDuty : ByteArray := prog_3_method_6_code
def yX1_dayOfDuty : MethodName := ⟨RX1, "dayOfDuty", "(I)I"⟩
abbrev cX1_countDueBefore : ByteArray := prog_3_method_7_code
def yX1_countDueBefore : MethodName := ⟨RX1, "countDueBefore", "(I)I"⟩
abbrev cX1_firstDueFrom : ByteArray := prog_3_method_8_code
def yX1_firstDueFrom : MethodName := ⟨RX1, "firstDueFrom", "(I)I"⟩
abbrev cX1_openDay : ByteArray := prog_3_method_9_code
def yX1_openDay : MethodName := ⟨RX1, "openDay", "()I"⟩
abbrev cX1_hasEvidence : ByteArray := prog_3_method_10_code
def yX1_hasEvidence : MethodName := ⟨RX1, "hasEvidence", "()Z"⟩
abbrev cX1_evidenceUntil : ByteArray := prog_3_method_11_code
def yX1_evidenceUntil : MethodName := ⟨RX1, "evidenceUntil", "()I"⟩
abbrev cX1_walkToDue : ByteArray := prog_3_method_12_code
def yX1_walkToDue : MethodName := ⟨RX1, "walkToDue", "(ILObligary$Calendar;)I"⟩
abbrev cX1_isMovedTo : ByteArray := prog_3_method_13_code
def yX1_isMovedTo : MethodName := ⟨RX1, "isMovedTo", "(ILObligary$Calendar;)Z"⟩
abbrev cX1_isNominal : ByteArray := prog_3_method_14_code
def yX1_isNominal : MethodName := ⟨RX1, "isNominal", "(ILObligary$Calendar;)Z"⟩
def RX2 : String := "Obligary"
def TX2 : u_T := fun k => match k with
  | 0 => ("Obligary", "calendar", "LObligary$Calendar;", true)
  | 1 => ("Obligary", "rules", "Ljava/util/ArrayList;", true)
  | 2 => ("Obligary", "today", "I", false)
  | _ => ("Obligary", "laidEfforts", "[I", true)
def tyX2 : Nat → FieldType := fun k => match k with
  | 0 => .object "Obligary$Calendar"
  | 1 => .object "java/util/ArrayList"
  | 2 => .int
  | _ => .array .int
abbrev wsX20 : List Cond := u_ws RX2 TX2 4
theorem nmX2 : ∀ a, a < 4 → ∀ b, b < 4 → a ≠ b → (TX2 a).2.1 ≠ (TX2 b).2.1 := by decide +kernel
theorem tyX2_ok : ∀ k, k < 4 → parseFieldDescriptor (TX2 k).2.2.1 = some (tyX2 k) := by decide +kernel
abbrev cX2_init : ByteArray := prog_1_method_1_code
def yX2_init : MethodName := ⟨RX2, "<init>", "()V"⟩
abbrev cX2_holiday : ByteArray := prog_1_method_2_code
def yX2_holiday : MethodName := ⟨RX2, "holiday", "(I)Z"⟩
abbrev cX2_isWorking : ByteArray := prog_1_method_3_code
def yX2_isWorking : MethodName := ⟨RX2, "isWorking", "(I)Z"⟩
abbrev cX2_workingDays : ByteArray := prog_1_method_4_code
def yX2_workingDays : MethodName := ⟨RX2, "workingDays", "(II)I"⟩
abbrev cX2_pass : ByteArray := prog_1_method_5_code
def yX2_pass : MethodName := ⟨RX2, "pass", "(I)I"⟩
abbrev cX2_today : ByteArray := prog_1_method_6_code
def yX2_today : MethodName := ⟨RX2, "today", "()I"⟩
abbrev cX2_addRule : ByteArray := prog_1_method_7_code
def yX2_addRule : MethodName := ⟨RX2, "addRule", "(IIIIII)I"⟩
abbrev cX2_setShift : ByteArray := prog_1_method_8_code
def yX2_setShift : MethodName := ⟨RX2, "setShift", "(II)I"⟩
abbrev cX2_require : ByteArray := prog_1_method_9_code
def yX2_require : MethodName := ⟨RX2, "require", "(II)Z"⟩
abbrev cX2_rules : ByteArray := prog_1_method_10_code
def yX2_rules : MethodName := ⟨RX2, "rules", "()I"⟩
abbrev cX2_dueDay : ByteArray := prog_1_method_11_code
def yX2_dueDay : MethodName := ⟨RX2, "dueDay", "(II)I"⟩
abbrev cX2_duties : ByteArray := prog_1_method_12_code
def yX2_duties : MethodName := ⟨RX2, "duties", "(I)I"⟩
abbrev cX2_nextDue : ByteArray := prog_1_method_13_code
def yX2_nextDue : MethodName := ⟨RX2, "nextDue", "(II)I"⟩
abbrev cX2_nextDueByWalking : ByteArray := prog_1_method_14_code
def yX2_nextDueByWalking : MethodName := ⟨RX2, "nextDueByWalking", "(II)I"⟩
abbrev cX2_upcoming : ByteArray := prog_1_method_15_code
def yX2_upcoming : MethodName := ⟨RX2, "upcoming", "(II)I"⟩
abbrev cX2_finish : ByteArray := prog_1_method_16_code
def yX2_finish : MethodName := ⟨RX2, "finish", "(I)I"⟩
abbrev cX2_open : ByteArray := prog_1_method_17_code
def yX2_open : MethodName := ⟨RX2, "open", "(I)I"⟩
abbrev cX2_finished : ByteArray := prog_1_method_18_code
def yX2_finished : MethodName := ⟨RX2, "finished", "(I)I"⟩
abbrev cX2_blockedBy : ByteArray := prog_1_method_19_code
def yX2_blockedBy : MethodName := ⟨RX2, "blockedBy", "(I)I"⟩
abbrev cX2_overdue : ByteArray := prog_1_method_20_code
def yX2_overdue : MethodName := ⟨RX2, "overdue", "()I"⟩
abbrev cX2_order : ByteArray := prog_1_method_21_code
def yX2_order : MethodName := ⟨RX2, "order", "(II)I"⟩
abbrev cX2_isCovered : ByteArray := prog_1_method_22_code
def yX2_isCovered : MethodName := ⟨RX2, "isCovered", "(II)Z"⟩
abbrev cX2_lasts : ByteArray := prog_1_method_23_code
def yX2_lasts : MethodName := ⟨RX2, "lasts", "(I)I"⟩
abbrev cX2_load : ByteArray := prog_1_method_24_code
def yX2_load : MethodName := ⟨RX2, "load", "(I)I"⟩
abbrev cX2_heaviest : ByteArray := prog_1_method_25_code
def yX2_heaviest : MethodName := ⟨RX2, "heaviest", "(II)I"⟩
abbrev cX2_level : ByteArray := prog_1_method_26_code
def yX2_level : MethodName := ⟨RX2, "level", "(III)I"⟩
abbrev cX2_levelled : ByteArray := prog_1_method_27_code
def yX2_levelled : MethodName := ⟨RX2, "levelled", "(IIII)I"⟩
abbrev cX2_isDay : ByteArray := prog_1_method_28_code
def yX2_isDay : MethodName := ⟨RX2, "isDay", "(I)Z"⟩
abbrev cX2_checkDay : ByteArray := prog_1_method_29_code
def yX2_checkDay : MethodName := ⟨RX2, "checkDay", "(I)V"⟩
abbrev cX2_checkSpan : ByteArray := prog_1_method_30_code
def yX2_checkSpan : MethodName := ⟨RX2, "checkSpan", "(II)V"⟩
abbrev cX2_checkPlace : ByteArray := prog_1_method_31_code
def yX2_checkPlace : MethodName := ⟨RX2, "checkPlace", "(I)V"⟩
abbrev cX2_checkRange : ByteArray := prog_1_method_32_code
def yX2_checkRange : MethodName := ⟨RX2, "checkRange", "(III)V"⟩
abbrev cX2_checkKind : ByteArray := prog_1_method_33_code
def yX2_checkKind : MethodName := ⟨RX2, "checkKind", "(II)V"⟩
abbrev cX2_checkShift : ByteArray := prog_1_method_34_code
def yX2_checkShift : MethodName := ⟨RX2, "checkShift", "(I)V"⟩
abbrev cX2_ruleAt : ByteArray := prog_1_method_35_code
def yX2_ruleAt : MethodName := ⟨RX2, "ruleAt", "(I)LObligary$Rule;"⟩
abbrev cX2_spreadNeeds : ByteArray := prog_1_method_36_code
def yX2_spreadNeeds : MethodName := ⟨RX2, "spreadNeeds", "(II)V"⟩
abbrev cX2_foreseeOpenDuties : ByteArray := prog_1_method_37_code
def yX2_foreseeOpenDuties : MethodName := ⟨RX2, "foreseeOpenDuties", "()V"⟩
abbrev cX2_leastBlocker : ByteArray := prog_1_method_38_code
def yX2_leastBlocker : MethodName := ⟨RX2, "leastBlocker", "(LObligary$Rule;)I"⟩
abbrev cX2_nextInOrder : ByteArray := prog_1_method_39_code
def yX2_nextInOrder : MethodName := ⟨RX2, "nextInOrder", "(I)I"⟩
abbrev cX2_effortsDueOn : ByteArray := prog_1_method_40_code
def yX2_effortsDueOn : MethodName := ⟨RX2, "effortsDueOn", "(I)I"⟩
abbrev cX2_layEfforts : ByteArray := prog_1_method_41_code
def yX2_layEfforts : MethodName := ⟨RX2, "layEfforts", "(III)I"⟩
abbrev cX2_layEffort : ByteArray := prog_1_method_42_code
def yX2_layEffort : MethodName := ⟨RX2, "layEffort", "(IIII)Z"⟩
def RX3 : String := "ObligaryModel"
def TX3 : u_T := fun k => match k with
  | 0 => ("ObligaryModel", "thrown", "I", false)
  | 1 => ("ObligaryModel", "present", "I", false)
  | 2 => ("ObligaryModel", "isHoliday", "[Z", true)
  | 3 => ("ObligaryModel", "many", "I", false)
  | 4 => ("ObligaryModel", "kinds", "[I", true)
  | 5 => ("ObligaryModel", "numbers", "[I", true)
  | 6 => ("ObligaryModel", "shifts", "[I", true)
  | 7 => ("ObligaryModel", "firsts", "[I", true)
  | 8 => ("ObligaryModel", "efforts", "[I", true)
  | 9 => ("ObligaryModel", "validities", "[I", true)
  | 10 => ("ObligaryModel", "done", "[I", true)
  | 11 => ("ObligaryModel", "evidence", "[I", true)
  | 12 => ("ObligaryModel", "requires", "[Z", true)
  | 13 => ("ObligaryModel", "isDue", "[Z", true)
  | 14 => ("ObligaryModel", "row", "[I", true)
  | 15 => ("ObligaryModel", "rowMany", "[I", true)
  | 16 => ("ObligaryModel", "trial", "[I", true)
  | 17 => ("ObligaryModel", "laid", "[I", true)
  | _ => ("ObligaryModel", "unfit", "I", false)
def tyX3 : Nat → FieldType := fun k => match k with
  | 0 => .int
  | 1 => .int
  | 2 => .array .boolean
  | 3 => .int
  | 4 => .array .int
  | 5 => .array .int
  | 6 => .array .int
  | 7 => .array .int
  | 8 => .array .int
  | 9 => .array .int
  | 10 => .array .int
  | 11 => .array .int
  | 12 => .array .boolean
  | 13 => .array .boolean
  | 14 => .array .int
  | 15 => .array .int
  | 16 => .array .int
  | 17 => .array .int
  | _ => .int
abbrev wsX30 : List Cond := u_ws RX3 TX3 19
theorem nmX3 : ∀ a, a < 19 → ∀ b, b < 19 → a ≠ b → (TX3 a).2.1 ≠ (TX3 b).2.1 := by decide +kernel
theorem tyX3_ok : ∀ k, k < 19 → parseFieldDescriptor (TX3 k).2.2.1 = some (tyX3 k) := by decide +kernel
abbrev cX3_init : ByteArray := prog_5_method_1_code
def yX3_init : MethodName := ⟨RX3, "<init>", "()V"⟩
abbrev cX3_thrown : ByteArray := prog_5_method_2_code
def yX3_thrown : MethodName := ⟨RX3, "thrown", "()I"⟩
abbrev cX3_fails : ByteArray := prog_5_method_3_code
def yX3_fails : MethodName := ⟨RX3, "fails", "(I)I"⟩
abbrev cX3_in : ByteArray := prog_5_method_4_code
def yX3_in : MethodName := ⟨RX3, "in", "(III)Z"⟩
abbrev cX3_isDay : ByteArray := prog_5_method_5_code
def yX3_isDay : MethodName := ⟨RX3, "isDay", "(I)Z"⟩
abbrev cX3_isRule : ByteArray := prog_5_method_6_code
def yX3_isRule : MethodName := ⟨RX3, "isRule", "(I)Z"⟩
abbrev cX3_works : ByteArray := prog_5_method_7_code
def yX3_works : MethodName := ⟨RX3, "works", "(I)Z"⟩
abbrev cX3_holiday : ByteArray := prog_5_method_8_code
def yX3_holiday : MethodName := ⟨RX3, "holiday", "(I)Z"⟩
abbrev cX3_isWorking : ByteArray := prog_5_method_9_code
def yX3_isWorking : MethodName := ⟨RX3, "isWorking", "(I)Z"⟩
abbrev cX3_workingFrom : ByteArray := prog_5_method_10_code
def yX3_workingFrom : MethodName := ⟨RX3, "workingFrom", "(II)I"⟩
abbrev cX3_barsSpan : ByteArray := prog_5_method_11_code
def yX3_barsSpan : MethodName := ⟨RX3, "barsSpan", "(II)I"⟩
abbrev cX3_workingDays : ByteArray := prog_5_method_12_code
def yX3_workingDays : MethodName := ⟨RX3, "workingDays", "(II)I"⟩
abbrev cX3_pass : ByteArray := prog_5_method_13_code
def yX3_pass : MethodName := ⟨RX3, "pass", "(I)I"⟩
abbrev cX3_today : ByteArray := prog_5_method_14_code
def yX3_today : MethodName := ⟨RX3, "today", "()I"⟩
abbrev cX3_addRule : ByteArray := prog_5_method_15_code
def yX3_addRule : MethodName := ⟨RX3, "addRule", "(IIIIII)I"⟩
abbrev cX3_setShift : ByteArray := prog_5_method_16_code
def yX3_setShift : MethodName := ⟨RX3, "setShift", "(II)I"⟩
abbrev cX3_reaches : ByteArray := prog_5_method_17_code
def yX3_reaches : MethodName := ⟨RX3, "reaches", "(II)Z"⟩
abbrev cX3_require : ByteArray := prog_5_method_18_code
def yX3_require : MethodName := ⟨RX3, "require", "(II)Z"⟩
abbrev cX3_rules : ByteArray := prog_5_method_19_code
def yX3_rules : MethodName := ⟨RX3, "rules", "()I"⟩
abbrev cX3_isNominal : ByteArray := prog_5_method_20_code
def yX3_isNominal : MethodName := ⟨RX3, "isNominal", "(II)Z"⟩
abbrev cX3_moved : ByteArray := prog_5_method_21_code
def yX3_moved : MethodName := ⟨RX3, "moved", "(II)I"⟩
abbrev cX3_marks : ByteArray := prog_5_method_22_code
def yX3_marks : MethodName := ⟨RX3, "marks", "()V"⟩
abbrev cX3_dueAt : ByteArray := prog_5_method_23_code
def yX3_dueAt : MethodName := ⟨RX3, "dueAt", "(II)I"⟩
abbrev cX3_dueDay : ByteArray := prog_5_method_24_code
def yX3_dueDay : MethodName := ⟨RX3, "dueDay", "(II)I"⟩
abbrev cX3_countBefore : ByteArray := prog_5_method_25_code
def yX3_countBefore : MethodName := ⟨RX3, "countBefore", "(II)I"⟩
abbrev cX3_duties : ByteArray := prog_5_method_26_code
def yX3_duties : MethodName := ⟨RX3, "duties", "(I)I"⟩
abbrev cX3_firstFrom : ByteArray := prog_5_method_27_code
def yX3_firstFrom : MethodName := ⟨RX3, "firstFrom", "(II)I"⟩
abbrev cX3_nextDue : ByteArray := prog_5_method_28_code
def yX3_nextDue : MethodName := ⟨RX3, "nextDue", "(II)I"⟩
abbrev cX3_nextDueByWalking : ByteArray := prog_5_method_29_code
def yX3_nextDueByWalking : MethodName := ⟨RX3, "nextDueByWalking", "(II)I"⟩
abbrev cX3_upcoming : ByteArray := prog_5_method_30_code
def yX3_upcoming : MethodName := ⟨RX3, "upcoming", "(II)I"⟩
abbrev cX3_blocks : ByteArray := prog_5_method_31_code
def yX3_blocks : MethodName := ⟨RX3, "blocks", "([II)I"⟩
abbrev cX3_finish : ByteArray := prog_5_method_32_code
def yX3_finish : MethodName := ⟨RX3, "finish", "(I)I"⟩
abbrev cX3_open : ByteArray := prog_5_method_33_code
def yX3_open : MethodName := ⟨RX3, "open", "(I)I"⟩
abbrev cX3_finished : ByteArray := prog_5_method_34_code
def yX3_finished : MethodName := ⟨RX3, "finished", "(I)I"⟩
abbrev cX3_blockedBy : ByteArray := prog_5_method_35_code
def yX3_blockedBy : MethodName := ⟨RX3, "blockedBy", "(I)I"⟩
abbrev cX3_overdue : ByteArray := prog_5_method_36_code
def yX3_overdue : MethodName := ⟨RX3, "overdue", "()I"⟩
abbrev cX3_comesNext : ByteArray := prog_5_method_37_code
def yX3_comesNext : MethodName := ⟨RX3, "comesNext", "(I)I"⟩
abbrev cX3_order : ByteArray := prog_5_method_38_code
def yX3_order : MethodName := ⟨RX3, "order", "(II)I"⟩
abbrev cX3_isCovered : ByteArray := prog_5_method_39_code
def yX3_isCovered : MethodName := ⟨RX3, "isCovered", "(II)Z"⟩
abbrev cX3_lasts : ByteArray := prog_5_method_40_code
def yX3_lasts : MethodName := ⟨RX3, "lasts", "(I)I"⟩
abbrev cX3_loadOf : ByteArray := prog_5_method_41_code
def yX3_loadOf : MethodName := ⟨RX3, "loadOf", "(I)I"⟩
abbrev cX3_load : ByteArray := prog_5_method_42_code
def yX3_load : MethodName := ⟨RX3, "load", "(I)I"⟩
abbrev cX3_heaviest : ByteArray := prog_5_method_43_code
def yX3_heaviest : MethodName := ⟨RX3, "heaviest", "(II)I"⟩
abbrev cX3_lays : ByteArray := prog_5_method_44_code
def yX3_lays : MethodName := ⟨RX3, "lays", "(IIII)V"⟩
abbrev cX3_levels : ByteArray := prog_5_method_45_code
def yX3_levels : MethodName := ⟨RX3, "levels", "(III)V"⟩
abbrev cX3_barsLevel : ByteArray := prog_5_method_46_code
def yX3_barsLevel : MethodName := ⟨RX3, "barsLevel", "(IIII)I"⟩
abbrev cX3_level : ByteArray := prog_5_method_47_code
def yX3_level : MethodName := ⟨RX3, "level", "(III)I"⟩
abbrev cX3_levelled : ByteArray := prog_5_method_48_code
def yX3_levelled : MethodName := ⟨RX3, "levelled", "(IIII)I"⟩
def RJx145de : String := "java/io/Serializable"
def TJx145de : u_T := fun k => match k with
  | _ => ("", "", "", false)
def tyJx145de : Nat → FieldType := fun k => match k with
  | _ => .int
abbrev wsJx145de0 : List Cond := u_ws RJx145de TJx145de 0
theorem nmJx145de : ∀ a, a < 0 → ∀ b, b < 0 → a ≠ b → (TJx145de a).2.1 ≠ (TJx145de b).2.1 := by decide +kernel
theorem tyJx145de_ok : ∀ k, k < 0 → parseFieldDescriptor (TJx145de k).2.2.1 = some (tyJx145de k) := by decide +kernel
def RJx8e188 : String := "java/lang/Cloneable"
def TJx8e188 : u_T := fun k => match k with
  | _ => ("", "", "", false)
def tyJx8e188 : Nat → FieldType := fun k => match k with
  | _ => .int
abbrev wsJx8e1880 : List Cond := u_ws RJx8e188 TJx8e188 0
theorem nmJx8e188 : ∀ a, a < 0 → ∀ b, b < 0 → a ≠ b → (TJx8e188 a).2.1 ≠ (TJx8e188 b).2.1 := by decide +kernel
theorem tyJx8e188_ok : ∀ k, k < 0 → parseFieldDescriptor (TJx8e188 k).2.2.1 = some (tyJx8e188 k) := by decide +kernel
def RJxab1ab : String := "java/lang/Iterable"
def TJxab1ab : u_T := fun k => match k with
  | _ => ("", "", "", false)
def tyJxab1ab : Nat → FieldType := fun k => match k with
  | _ => .int
abbrev wsJxab1ab0 : List Cond := u_ws RJxab1ab TJxab1ab 0
theorem nmJxab1ab : ∀ a, a < 0 → ∀ b, b < 0 → a ≠ b → (TJxab1ab a).2.1 ≠ (TJxab1ab b).2.1 := by decide +kernel
theorem tyJxab1ab_ok : ∀ k, k < 0 → parseFieldDescriptor (TJxab1ab k).2.2.1 = some (tyJxab1ab k) := by decide +kernel
def RJ9 : String := "java/lang/Math"
def TJ9 : u_T := fun k => match k with
  | _ => ("", "", "", false)
def tyJ9 : Nat → FieldType := fun k => match k with
  | _ => .int
abbrev wsJ90 : List Cond := u_ws RJ9 TJ9 0
theorem nmJ9 : ∀ a, a < 0 → ∀ b, b < 0 → a ≠ b → (TJ9 a).2.1 ≠ (TJ9 b).2.1 := by decide +kernel
theorem tyJ9_ok : ∀ k, k < 0 → parseFieldDescriptor (TJ9 k).2.2.1 = some (tyJ9 k) := by decide +kernel
abbrev cJ9_max_7cf53 : ByteArray := prog_13_method_65_code
def yJ9_max_7cf53 : MethodName := ⟨RJ9, "max", "(II)I"⟩
abbrev cJ9_min_7cf53 : ByteArray := prog_13_method_69_code
def yJ9_min_7cf53 : MethodName := ⟨RJ9, "min", "(II)I"⟩
def RJ0 : String := "java/lang/String"
def TJ0 : u_T := fun k => match k with
  | _ => ("", "", "", false)
def tyJ0 : Nat → FieldType := fun k => match k with
  | _ => .int
abbrev wsJ00 : List Cond := u_ws RJ0 TJ0 0
theorem nmJ0 : ∀ a, a < 0 → ∀ b, b < 0 → a ≠ b → (TJ0 a).2.1 ≠ (TJ0 b).2.1 := by decide +kernel
theorem tyJ0_ok : ∀ k, k < 0 → parseFieldDescriptor (TJ0 k).2.2.1 = some (tyJ0 k) := by decide +kernel
def RJ10 : String := "java/lang/System"
def TJ10 : u_T := fun k => match k with
  | _ => ("", "", "", false)
def tyJ10 : Nat → FieldType := fun k => match k with
  | _ => .int
abbrev wsJ100 : List Cond := u_ws RJ10 TJ10 0
theorem nmJ10 : ∀ a, a < 0 → ∀ b, b < 0 → a ≠ b → (TJ10 a).2.1 ≠ (TJ10 b).2.1 := by decide +kernel
theorem tyJ10_ok : ∀ k, k < 0 → parseFieldDescriptor (TJ10 k).2.2.1 = some (tyJ10 k) := by decide +kernel
def RJxa1e45 : String := "java/util/AbstractCollection"
def TJxa1e45 : u_T := fun k => match k with
  | _ => ("", "", "", false)
def tyJxa1e45 : Nat → FieldType := fun k => match k with
  | _ => .int
abbrev wsJxa1e450 : List Cond := u_ws RJxa1e45 TJxa1e45 0
theorem nmJxa1e45 : ∀ a, a < 0 → ∀ b, b < 0 → a ≠ b → (TJxa1e45 a).2.1 ≠ (TJxa1e45 b).2.1 := by decide +kernel
theorem tyJxa1e45_ok : ∀ k, k < 0 → parseFieldDescriptor (TJxa1e45 k).2.2.1 = some (tyJxa1e45 k) := by decide +kernel
abbrev cJxa1e45_init_da8c8 : ByteArray := prog_18_method_1_code
def yJxa1e45_init_da8c8 : MethodName := ⟨RJxa1e45, "<init>", "()V"⟩
def RJxc12de : String := "java/util/AbstractList"
def TJxc12de : u_T := fun k => match k with
  | _ => ("", "", "", false)
def tyJxc12de : Nat → FieldType := fun k => match k with
  | _ => .int
abbrev wsJxc12de0 : List Cond := u_ws RJxc12de TJxc12de 0
theorem nmJxc12de : ∀ a, a < 0 → ∀ b, b < 0 → a ≠ b → (TJxc12de a).2.1 ≠ (TJxc12de b).2.1 := by decide +kernel
theorem tyJxc12de_ok : ∀ k, k < 0 → parseFieldDescriptor (TJxc12de k).2.2.1 = some (tyJxc12de k) := by decide +kernel
abbrev cJxc12de_init_da8c8 : ByteArray := prog_19_method_1_code
def yJxc12de_init_da8c8 : MethodName := ⟨RJxc12de, "<init>", "()V"⟩
def RJx4a65c : String := "java/util/ArrayList"
def TJx4a65c : u_T := fun k => match k with
  | 0 => ("java/util/AbstractList", "modCount", "I", false)
  | 1 => ("java/util/ArrayList", "elementData", "[Ljava/lang/Object;", false)
  | _ => ("java/util/ArrayList", "size", "I", false)
def tyJx4a65c : Nat → FieldType := fun k => match k with
  | 0 => .int
  | 1 => .array (.object "java/lang/Object")
  | _ => .int
abbrev wsJx4a65c0 : List Cond := u_ws RJx4a65c TJx4a65c 3
theorem nmJx4a65c : ∀ a, a < 3 → ∀ b, b < 3 → a ≠ b → (TJx4a65c a).2.1 ≠ (TJx4a65c b).2.1 := by decide +kernel
theorem tyJx4a65c_ok : ∀ k, k < 3 → parseFieldDescriptor (TJx4a65c k).2.2.1 = some (tyJx4a65c k) := by decide +kernel
abbrev cJx4a65c_init_da8c8 : ByteArray := prog_20_method_2_code
def yJx4a65c_init_da8c8 : MethodName := ⟨RJx4a65c, "<init>", "()V"⟩
abbrev cJx4a65c_grow_92f84 : ByteArray := prog_20_method_6_code
def yJx4a65c_grow_92f84 : MethodName := ⟨RJx4a65c, "grow", "(I)[Ljava/lang/Object;"⟩
abbrev cJx4a65c_grow_d5877 : ByteArray := prog_20_method_7_code
def yJx4a65c_grow_d5877 : MethodName := ⟨RJx4a65c, "grow", "()[Ljava/lang/Object;"⟩
abbrev cJx4a65c_size_8abf5 : ByteArray := prog_20_method_8_code
def yJx4a65c_size_8abf5 : MethodName := ⟨RJx4a65c, "size", "()I"⟩
abbrev cJx4a65c_elementData_915e3 : ByteArray := prog_20_method_18_code
def yJx4a65c_elementData_915e3 : MethodName := ⟨RJx4a65c, "elementData", "(I)Ljava/lang/Object;"⟩
abbrev cJx4a65c_get_915e3 : ByteArray := prog_20_method_20_code
def yJx4a65c_get_915e3 : MethodName := ⟨RJx4a65c, "get", "(I)Ljava/lang/Object;"⟩
abbrev cJx4a65c_add_72be8 : ByteArray := prog_20_method_24_code
def yJx4a65c_add_72be8 : MethodName := ⟨RJx4a65c, "add", "(Ljava/lang/Object;[Ljava/lang/Object;I)V"⟩
abbrev cJx4a65c_add_9ea2d : ByteArray := prog_20_method_25_code
def yJx4a65c_add_9ea2d : MethodName := ⟨RJx4a65c, "add", "(Ljava/lang/Object;)Z"⟩
def RJ7 : String := "java/util/Arrays"
def TJ7 : u_T := fun k => match k with
  | _ => ("", "", "", false)
def tyJ7 : Nat → FieldType := fun k => match k with
  | _ => .int
abbrev wsJ70 : List Cond := u_ws RJ7 TJ7 0
theorem nmJ7 : ∀ a, a < 0 → ∀ b, b < 0 → a ≠ b → (TJ7 a).2.1 ≠ (TJ7 b).2.1 := by decide +kernel
theorem tyJ7_ok : ∀ k, k < 0 → parseFieldDescriptor (TJ7 k).2.2.1 = some (tyJ7 k) := by decide +kernel
abbrev cJ7_fill_53178 : ByteArray := prog_21_method_103_code
def yJ7_fill_53178 : MethodName := ⟨RJ7, "fill", "([II)V"⟩
abbrev cJ7_copyOf_1904c : ByteArray := prog_21_method_119_code
def yJ7_copyOf_1904c : MethodName := ⟨RJ7, "copyOf", "([Ljava/lang/Object;I)[Ljava/lang/Object;"⟩
abbrev cJ7_copyOf_6403c : ByteArray := prog_21_method_120_code
def yJ7_copyOf_6403c : MethodName := ⟨RJ7, "copyOf", "([Ljava/lang/Object;ILjava/lang/Class;)[Ljava/lang/Object;"⟩
def RJx5ef63 : String := "java/util/Collection"
def TJx5ef63 : u_T := fun k => match k with
  | _ => ("", "", "", false)
def tyJx5ef63 : Nat → FieldType := fun k => match k with
  | _ => .int
abbrev wsJx5ef630 : List Cond := u_ws RJx5ef63 TJx5ef63 0
theorem nmJx5ef63 : ∀ a, a < 0 → ∀ b, b < 0 → a ≠ b → (TJx5ef63 a).2.1 ≠ (TJx5ef63 b).2.1 := by decide +kernel
theorem tyJx5ef63_ok : ∀ k, k < 0 → parseFieldDescriptor (TJx5ef63 k).2.2.1 = some (tyJx5ef63 k) := by decide +kernel
def RJxbd725 : String := "java/util/List"
def TJxbd725 : u_T := fun k => match k with
  | _ => ("", "", "", false)
def tyJxbd725 : Nat → FieldType := fun k => match k with
  | _ => .int
abbrev wsJxbd7250 : List Cond := u_ws RJxbd725 TJxbd725 0
theorem nmJxbd725 : ∀ a, a < 0 → ∀ b, b < 0 → a ≠ b → (TJxbd725 a).2.1 ≠ (TJxbd725 b).2.1 := by decide +kernel
theorem tyJxbd725_ok : ∀ k, k < 0 → parseFieldDescriptor (TJxbd725 k).2.2.1 = some (tyJxbd725 k) := by decide +kernel
def RJ15 : String := "java/util/Objects"
def TJ15 : u_T := fun k => match k with
  | _ => ("", "", "", false)
def tyJ15 : Nat → FieldType := fun k => match k with
  | _ => .int
abbrev wsJ150 : List Cond := u_ws RJ15 TJ15 0
theorem nmJ15 : ∀ a, a < 0 → ∀ b, b < 0 → a ≠ b → (TJ15 a).2.1 ≠ (TJ15 b).2.1 := by decide +kernel
theorem tyJ15_ok : ∀ k, k < 0 → parseFieldDescriptor (TJ15 k).2.2.1 = some (tyJ15 k) := by decide +kernel
abbrev cJ15_checkIndex_7cf53 : ByteArray := prog_25_method_17_code
def yJ15_checkIndex_7cf53 : MethodName := ⟨RJ15, "checkIndex", "(II)I"⟩
def RJxf0a74 : String := "java/util/RandomAccess"
def TJxf0a74 : u_T := fun k => match k with
  | _ => ("", "", "", false)
def tyJxf0a74 : Nat → FieldType := fun k => match k with
  | _ => .int
abbrev wsJxf0a740 : List Cond := u_ws RJxf0a74 TJxf0a74 0
theorem nmJxf0a74 : ∀ a, a < 0 → ∀ b, b < 0 → a ≠ b → (TJxf0a74 a).2.1 ≠ (TJxf0a74 b).2.1 := by decide +kernel
theorem tyJxf0a74_ok : ∀ k, k < 0 → parseFieldDescriptor (TJxf0a74 k).2.2.1 = some (tyJxf0a74 k) := by decide +kernel
def RJxa66e6 : String := "java/util/SequencedCollection"
def TJxa66e6 : u_T := fun k => match k with
  | _ => ("", "", "", false)
def tyJxa66e6 : Nat → FieldType := fun k => match k with
  | _ => .int
abbrev wsJxa66e60 : List Cond := u_ws RJxa66e6 TJxa66e6 0
theorem nmJxa66e6 : ∀ a, a < 0 → ∀ b, b < 0 → a ≠ b → (TJxa66e6 a).2.1 ≠ (TJxa66e6 b).2.1 := by decide +kernel
theorem tyJxa66e6_ok : ∀ k, k < 0 → parseFieldDescriptor (TJxa66e6 k).2.2.1 = some (tyJxa66e6 k) := by decide +kernel
def RJ8 : String := "jdk/internal/util/ArraysSupport"
def TJ8 : u_T := fun k => match k with
  | _ => ("", "", "", false)
def tyJ8 : Nat → FieldType := fun k => match k with
  | _ => .int
abbrev wsJ80 : List Cond := u_ws RJ8 TJ8 0
theorem nmJ8 : ∀ a, a < 0 → ∀ b, b < 0 → a ≠ b → (TJ8 a).2.1 ≠ (TJ8 b).2.1 := by decide +kernel
theorem tyJ8_ok : ∀ k, k < 0 → parseFieldDescriptor (TJ8 k).2.2.1 = some (tyJ8 k) := by decide +kernel
abbrev cJ8_newLength_cabcc : ByteArray := prog_28_method_27_code
def yJ8_newLength_cabcc : MethodName := ⟨RJ8, "newLength", "(III)I"⟩
abbrev cJ8_hugeLength_7cf53 : ByteArray := prog_28_method_28_code
def yJ8_hugeLength_7cf53 : MethodName := ⟨RJ8, "hugeLength", "(II)I"⟩
def RJ3 : String := "jdk/internal/util/Preconditions"
def TJ3 : u_T := fun k => match k with
  | _ => ("", "", "", false)
def tyJ3 : Nat → FieldType := fun k => match k with
  | _ => .int
abbrev wsJ30 : List Cond := u_ws RJ3 TJ3 0
theorem nmJ3 : ∀ a, a < 0 → ∀ b, b < 0 → a ≠ b → (TJ3 a).2.1 ≠ (TJ3 b).2.1 := by decide +kernel
theorem tyJ3_ok : ∀ k, k < 0 → parseFieldDescriptor (TJ3 k).2.2.1 = some (tyJ3 k) := by decide +kernel
abbrev cJ3_checkIndex_8e157 : ByteArray := prog_29_method_11_code
def yJ3_checkIndex_8e157 : MethodName := ⟨RJ3, "checkIndex", "(IILjava/util/function/BiFunction;)I"⟩
def RL : String := "ObligaryLaw"
abbrev cL_holiday : ByteArray := method_3_code
def yL_holiday : MethodName := ⟨RL, "holiday", "(LObligary;I[J)I"⟩
abbrev cL_isWorking : ByteArray := method_4_code
def yL_isWorking : MethodName := ⟨RL, "isWorking", "(LObligary;I[J)I"⟩
abbrev cL_workingDays : ByteArray := method_5_code
def yL_workingDays : MethodName := ⟨RL, "workingDays", "(LObligary;II[J)I"⟩
abbrev cL_pass : ByteArray := method_6_code
def yL_pass : MethodName := ⟨RL, "pass", "(LObligary;I[J)I"⟩
abbrev cL_addRule : ByteArray := method_7_code
def yL_addRule : MethodName := ⟨RL, "addRule", "(LObligary;IIIIII[J)I"⟩
abbrev cL_setShift : ByteArray := method_8_code
def yL_setShift : MethodName := ⟨RL, "setShift", "(LObligary;II[J)I"⟩
abbrev cL_require : ByteArray := method_9_code
def yL_require : MethodName := ⟨RL, "require", "(LObligary;II[J)I"⟩
abbrev cL_dueDay : ByteArray := method_10_code
def yL_dueDay : MethodName := ⟨RL, "dueDay", "(LObligary;II[J)I"⟩
abbrev cL_duties : ByteArray := method_11_code
def yL_duties : MethodName := ⟨RL, "duties", "(LObligary;I[J)I"⟩
abbrev cL_nextDue : ByteArray := method_12_code
def yL_nextDue : MethodName := ⟨RL, "nextDue", "(LObligary;II[J)I"⟩
abbrev cL_nextDueByWalking : ByteArray := method_13_code
def yL_nextDueByWalking : MethodName := ⟨RL, "nextDueByWalking", "(LObligary;II[J)I"⟩
abbrev cL_upcoming : ByteArray := method_14_code
def yL_upcoming : MethodName := ⟨RL, "upcoming", "(LObligary;II[J)I"⟩
abbrev cL_finish : ByteArray := method_15_code
def yL_finish : MethodName := ⟨RL, "finish", "(LObligary;I[J)I"⟩
abbrev cL_open : ByteArray := method_16_code
def yL_open : MethodName := ⟨RL, "open", "(LObligary;I[J)I"⟩
abbrev cL_finished : ByteArray := method_17_code
def yL_finished : MethodName := ⟨RL, "finished", "(LObligary;I[J)I"⟩
abbrev cL_blockedBy : ByteArray := method_18_code
def yL_blockedBy : MethodName := ⟨RL, "blockedBy", "(LObligary;I[J)I"⟩
abbrev cL_order : ByteArray := method_19_code
def yL_order : MethodName := ⟨RL, "order", "(LObligary;II[J)I"⟩
abbrev cL_isCovered : ByteArray := method_20_code
def yL_isCovered : MethodName := ⟨RL, "isCovered", "(LObligary;II[J)I"⟩
abbrev cL_lasts : ByteArray := method_21_code
def yL_lasts : MethodName := ⟨RL, "lasts", "(LObligary;I[J)I"⟩
abbrev cL_load : ByteArray := method_22_code
def yL_load : MethodName := ⟨RL, "load", "(LObligary;I[J)I"⟩
abbrev cL_heaviest : ByteArray := method_23_code
def yL_heaviest : MethodName := ⟨RL, "heaviest", "(LObligary;II[J)I"⟩
abbrev cL_level : ByteArray := method_24_code
def yL_level : MethodName := ⟨RL, "level", "(LObligary;III[J)I"⟩
abbrev cL_levelled : ByteArray := method_25_code
def yL_levelled : MethodName := ⟨RL, "levelled", "(LObligary;IIII[J)I"⟩
abbrev cL_law : ByteArray := code
def yL_law : MethodName := ⟨RL, "law", "([I)Z"⟩
abbrev vwCl : List vw_C := [(RJx4a65c, TJx4a65c, 3), (RX0, TX0, 3), (RX1, TX1, 12), (RX2, TX2, 4), (RX3, TX3, 19)]
end
section
def GW : List Cond := lw_tbl.filter goodWord
theorem gw_of {w : Cond} (h : w ∈ lw_tbl) (g : goodWord w = true) : w ∈ GW := List.mem_filter.mpr ⟨h, g⟩
theorem gw_tbl {w : Cond} (h : w ∈ GW) : w ∈ lw_tbl := (List.mem_filter.mp h).1
theorem gw_good {w : Cond} (h : w ∈ GW) : goodWord w = true := (List.mem_filter.mp h).2
theorem gw0 {w : Cond} {i : Nat} (h : (k2_sels lw_privs)[i]? = some w) (g : goodWord w = true) : w ∈ GW := gw_of (List.mem_append_left _ (List.mem_of_getElem? h)) g
theorem gw1 {w : Cond} {i : Nat} (h : tables_1_1[i]? = some w) (g : goodWord w = true) : w ∈ GW := gw_of (List.mem_append_right _ (List.mem_append_left _ (List.mem_of_getElem? h))) g
theorem gw2 {w : Cond} {i : Nat} (h : tables_1_2[i]? = some w) (g : goodWord w = true) : w ∈ GW := gw_of (List.mem_append_right _ (List.mem_append_right _ (List.mem_append_left _ (List.mem_of_getElem? h)))) g
theorem gw3 {w : Cond} {i : Nat} (h : tables_1_3[i]? = some w) (g : goodWord w = true) : w ∈ GW := gw_of (List.mem_append_right _ (List.mem_append_right _ (List.mem_append_right _ (List.mem_append_left _ (List.mem_of_getElem? h))))) g
theorem gw4 {w : Cond} {i : Nat} (h : tables_1_4[i]? = some w) (g : goodWord w = true) : w ∈ GW := gw_of (List.mem_append_right _ (List.mem_append_right _ (List.mem_append_right _ (List.mem_append_right _ (List.mem_of_getElem? h))))) g
theorem gw_ps {ws : List Cond} (ps : List Nat) (h : ws = ps.filterMap (fun i => lw_tbl[i]?)) (g : ws.all goodWord = true) : ∀ w ∈ ws, w ∈ GW := by
  intro w hw
  refine gw_of ?_ (List.all_eq_true.mp g w hw)
  rw [h] at hw
  obtain ⟨i, -, hi⟩ := List.mem_filterMap.mp hw
  exact List.mem_of_getElem? hi
theorem in_L : Cond.initialized RL ∈ GW := gw1 (i := 0) (by decide +kernel) (by decide +kernel)
theorem in_X2 : Cond.initialized RX2 ∈ GW := gw1 (i := 1) (by decide +kernel) (by decide +kernel)
theorem in_X0 : Cond.initialized RX0 ∈ GW := gw1 (i := 2) (by decide +kernel) (by decide +kernel)
theorem in_Jxa1e45 : Cond.initialized RJxa1e45 ∈ GW := gw1 (i := 3) (by decide +kernel) (by decide +kernel)
theorem in_Jxc12de : Cond.initialized RJxc12de ∈ GW := gw1 (i := 4) (by decide +kernel) (by decide +kernel)
theorem in_Jx4a65c : Cond.initialized RJx4a65c ∈ GW := gw1 (i := 5) (by decide +kernel) (by decide +kernel)
theorem in_X3 : Cond.initialized RX3 ∈ GW := gw1 (i := 6) (by decide +kernel) (by decide +kernel)
theorem in_Throwable : Cond.initialized "java/lang/Throwable" ∈ GW := gw1 (i := 7) (by decide +kernel) (by decide +kernel)
theorem in_Exception : Cond.initialized "java/lang/Exception" ∈ GW := gw1 (i := 8) (by decide +kernel) (by decide +kernel)
theorem in_RuntimeException : Cond.initialized "java/lang/RuntimeException" ∈ GW := gw1 (i := 9) (by decide +kernel) (by decide +kernel)
theorem in_IndexOutOfBoundsException : Cond.initialized "java/lang/IndexOutOfBoundsException" ∈ GW := gw1 (i := 10) (by decide +kernel) (by decide +kernel)
theorem in_J15 : Cond.initialized RJ15 ∈ GW := gw1 (i := 11) (by decide +kernel) (by decide +kernel)
theorem in_J3 : Cond.initialized RJ3 ∈ GW := gw1 (i := 12) (by decide +kernel) (by decide +kernel)
theorem in_IllegalArgumentException : Cond.initialized "java/lang/IllegalArgumentException" ∈ GW := gw1 (i := 13) (by decide +kernel) (by decide +kernel)
theorem in_IllegalStateException : Cond.initialized "java/lang/IllegalStateException" ∈ GW := gw1 (i := 14) (by decide +kernel) (by decide +kernel)
theorem in_X1 : Cond.initialized RX1 ∈ GW := gw1 (i := 15) (by decide +kernel) (by decide +kernel)
theorem in_J8 : Cond.initialized RJ8 ∈ GW := gw1 (i := 16) (by decide +kernel) (by decide +kernel)
theorem in_J9 : Cond.initialized RJ9 ∈ GW := gw1 (i := 17) (by decide +kernel) (by decide +kernel)
theorem in_J7 : Cond.initialized RJ7 ∈ GW := gw1 (i := 18) (by decide +kernel) (by decide +kernel)
theorem in_J10 : Cond.initialized RJ10 ∈ GW := gw1 (i := 19) (by decide +kernel) (by decide +kernel)
theorem in_NoSuchElementException : Cond.initialized "java/util/NoSuchElementException" ∈ GW := gw1 (i := 20) (by decide +kernel) (by decide +kernel)
theorem cl_L_8 : Cond.classLink RL 8 RX2 ∈ GW := gw1 (i := 21) (by decide +kernel) (by decide +kernel)
theorem it_X2 : Cond.instantiable RX2 4 ∈ GW := gw1 (i := 22) (by decide +kernel) (by decide +kernel)
theorem ml_L_93 : Cond.methodLink RL 93 yX2_init ∈ GW := gw1 (i := 23) (by decide +kernel) (by decide +kernel)
theorem im_X2_init : Cond.instanceMethod yX2_init ∈ GW := gw1 (i := 24) (by decide +kernel) (by decide +kernel)
theorem co_X2_init : Cond.code yX2_init cX2_init 1 none ∈ GW := gw1 (i := 25) (by decide +kernel) (by decide +kernel)
theorem ml_X2_3 : Cond.methodLink RX2 3 objectInit ∈ GW := gw1 (i := 26) (by decide +kernel) (by decide +kernel)
theorem im_objectInit : Cond.instanceMethod objectInit ∈ GW := gw1 (i := 27) (by decide +kernel) (by decide +kernel)
theorem co_objectInit : Cond.code objectInit ⟨#[0xb1]⟩ 1 none ∈ GW := gw1 (i := 28) (by decide +kernel) (by decide +kernel)
theorem cl_X2_9 : Cond.classLink RX2 9 RX0 ∈ GW := gw1 (i := 29) (by decide +kernel) (by decide +kernel)
theorem it_X0 : Cond.instantiable RX0 3 ∈ GW := gw1 (i := 30) (by decide +kernel) (by decide +kernel)
theorem ml_X2_11 : Cond.methodLink RX2 11 yX0_init ∈ GW := gw1 (i := 31) (by decide +kernel) (by decide +kernel)
theorem im_X0_init : Cond.instanceMethod yX0_init ∈ GW := gw1 (i := 32) (by decide +kernel) (by decide +kernel)
theorem co_X0_init : Cond.code yX0_init cX0_init 2 none ∈ GW := gw1 (i := 33) (by decide +kernel) (by decide +kernel)
theorem ml_X0_3 : Cond.methodLink RX0 3 objectInit ∈ GW := gw1 (i := 34) (by decide +kernel) (by decide +kernel)
theorem ml_X0_22 : Cond.methodLink RX0 22 yX0_numberMonthOf ∈ GW := gw1 (i := 35) (by decide +kernel) (by decide +kernel)
theorem im_X0_numberMonthOf : Cond.instanceMethod yX0_numberMonthOf ∈ GW := gw1 (i := 37) (by decide +kernel) (by decide +kernel)
theorem co_X0_numberMonthOf : Cond.code yX0_numberMonthOf cX0_numberMonthOf 6 none ∈ GW := gw1 (i := 38) (by decide +kernel) (by decide +kernel)
theorem st_X2_isDay : Cond.static yX2_isDay ∈ GW := gw1 (i := 40) (by decide +kernel) (by decide +kernel)
theorem co_X2_isDay : Cond.code yX2_isDay cX2_isDay 1 (some .boolean) ∈ GW := gw1 (i := 41) (by decide +kernel) (by decide +kernel)
theorem ml_X0_30 : Cond.methodLink RX0 30 yX0_works ∈ GW := gw1 (i := 42) (by decide +kernel) (by decide +kernel)
theorem im_X0_works : Cond.instanceMethod yX0_works ∈ GW := gw1 (i := 43) (by decide +kernel) (by decide +kernel)
theorem se_X0_works : Cond.selects RX0 yX0_works yX0_works ∈ GW := gw1 (i := 44) (by decide +kernel) (by decide +kernel)
theorem co_X0_works : Cond.code yX0_works cX0_works 2 (some .boolean) ∈ GW := gw1 (i := 45) (by decide +kernel) (by decide +kernel)
theorem fl_X0_9 : Cond.fieldLink RX0 9 "Obligary$Calendar" "holidays" "[Z" ∈ GW := gw1 (i := 46) (by decide +kernel) (by decide +kernel)
theorem fl_X0_15 : Cond.fieldLink RX0 15 "Obligary$Calendar" "numbersFromStart" "[I" ∈ GW := gw1 (i := 47) (by decide +kernel) (by decide +kernel)
theorem fl_X0_19 : Cond.fieldLink RX0 19 "Obligary$Calendar" "numbersFromEnd" "[I" ∈ GW := gw1 (i := 48) (by decide +kernel) (by decide +kernel)
theorem ac_boolean : Cond.arrayClass .boolean ∈ GW := gw1 (i := 56) (by decide +kernel) (by decide +kernel)
theorem ac_int : Cond.arrayClass .int ∈ GW := gw1 (i := 57) (by decide +kernel) (by decide +kernel)
theorem cl_X2_16 : Cond.classLink RX2 16 RJx4a65c ∈ GW := gw1 (i := 58) (by decide +kernel) (by decide +kernel)
theorem it_Jx4a65c : Cond.instantiable RJx4a65c 3 ∈ GW := gw1 (i := 59) (by decide +kernel) (by decide +kernel)
theorem ml_X2_18 : Cond.methodLink RX2 18 yJx4a65c_init_da8c8 ∈ GW := gw1 (i := 60) (by decide +kernel) (by decide +kernel)
theorem im_Jx4a65c_init_da8c8 : Cond.instanceMethod yJx4a65c_init_da8c8 ∈ GW := gw1 (i := 61) (by decide +kernel) (by decide +kernel)
theorem co_Jx4a65c_init_da8c8 : Cond.code yJx4a65c_init_da8c8 cJx4a65c_init_da8c8 1 none ∈ GW := gw1 (i := 62) (by decide +kernel) (by decide +kernel)
theorem ml_Jx4a65c_1 : Cond.methodLink RJx4a65c 1 yJxc12de_init_da8c8 ∈ GW := gw1 (i := 63) (by decide +kernel) (by decide +kernel)
theorem im_Jxc12de_init_da8c8 : Cond.instanceMethod yJxc12de_init_da8c8 ∈ GW := gw1 (i := 64) (by decide +kernel) (by decide +kernel)
theorem co_Jxc12de_init_da8c8 : Cond.code yJxc12de_init_da8c8 cJxc12de_init_da8c8 1 none ∈ GW := gw1 (i := 65) (by decide +kernel) (by decide +kernel)
theorem ml_Jxc12de_1 : Cond.methodLink RJxc12de 1 yJxa1e45_init_da8c8 ∈ GW := gw1 (i := 66) (by decide +kernel) (by decide +kernel)
theorem im_Jxa1e45_init_da8c8 : Cond.instanceMethod yJxa1e45_init_da8c8 ∈ GW := gw1 (i := 67) (by decide +kernel) (by decide +kernel)
theorem co_Jxa1e45_init_da8c8 : Cond.code yJxa1e45_init_da8c8 cJxa1e45_init_da8c8 1 none ∈ GW := gw1 (i := 68) (by decide +kernel) (by decide +kernel)
theorem ml_Jxa1e45_1 : Cond.methodLink RJxa1e45 1 objectInit ∈ GW := gw1 (i := 69) (by decide +kernel) (by decide +kernel)
theorem fl_Jx4a65c_39 : Cond.fieldLink RJx4a65c 39 "java/util/ArrayList" "DEFAULTCAPACITY_EMPTY_ELEMENTDATA" "[Ljava/lang/Object;" ∈ GW := gw1 (i := 70) (by decide +kernel) (by decide +kernel)
theorem fl_Jx4a65c_9 : Cond.fieldLink RJx4a65c 9 "java/util/ArrayList" "elementData" "[Ljava/lang/Object;" ∈ GW := gw1 (i := 72) (by decide +kernel) (by decide +kernel)
theorem fl_Jx4a65c_48 : Cond.fieldLink RJx4a65c 48 "java/util/ArrayList" "size" "I" ∈ GW := gw1 (i := 73) (by decide +kernel) (by decide +kernel)
theorem fl_Jxc12de_7 : Cond.fieldLink RJxc12de 7 "java/util/AbstractList" "modCount" "I" ∈ GW := gw1 (i := 74) (by decide +kernel) (by decide +kernel)
theorem fl_Jx4a65c_63 : Cond.fieldLink RJx4a65c 63 "java/util/ArrayList" "modCount" "I" ∈ GW := gw1 (i := 75) (by decide +kernel) (by decide +kernel)
theorem fl_X2_12 : Cond.fieldLink RX2 12 "Obligary" "calendar" "LObligary$Calendar;" ∈ GW := gw1 (i := 84) (by decide +kernel) (by decide +kernel)
theorem fl_X2_19 : Cond.fieldLink RX2 19 "Obligary" "rules" "Ljava/util/ArrayList;" ∈ GW := gw1 (i := 85) (by decide +kernel) (by decide +kernel)
theorem fl_X2_23 : Cond.fieldLink RX2 23 "Obligary" "today" "I" ∈ GW := gw1 (i := 86) (by decide +kernel) (by decide +kernel)
theorem fl_X2_27 : Cond.fieldLink RX2 27 "Obligary" "laidEfforts" "[I" ∈ GW := gw1 (i := 87) (by decide +kernel) (by decide +kernel)
theorem ml_L_117 : Cond.methodLink RL 117 yX2_today ∈ GW := gw1 (i := 97) (by decide +kernel) (by decide +kernel)
theorem im_X2_today : Cond.instanceMethod yX2_today ∈ GW := gw1 (i := 98) (by decide +kernel) (by decide +kernel)
theorem se_X2_today : Cond.selects RX2 yX2_today yX2_today ∈ GW := gw1 (i := 99) (by decide +kernel) (by decide +kernel)
theorem co_X2_today : Cond.code yX2_today cX2_today 1 (some .int) ∈ GW := gw1 (i := 100) (by decide +kernel) (by decide +kernel)
theorem ml_L_131 : Cond.methodLink RL 131 yX2_rules ∈ GW := gw1 (i := 101) (by decide +kernel) (by decide +kernel)
theorem im_X2_rules : Cond.instanceMethod yX2_rules ∈ GW := gw1 (i := 102) (by decide +kernel) (by decide +kernel)
theorem se_X2_rules : Cond.selects RX2 yX2_rules yX2_rules ∈ GW := gw1 (i := 103) (by decide +kernel) (by decide +kernel)
theorem co_X2_rules : Cond.code yX2_rules cX2_rules 1 (some .int) ∈ GW := gw1 (i := 104) (by decide +kernel) (by decide +kernel)
theorem ml_X2_39 : Cond.methodLink RX2 39 yJx4a65c_size_8abf5 ∈ GW := gw1 (i := 105) (by decide +kernel) (by decide +kernel)
theorem im_Jx4a65c_size_8abf5 : Cond.instanceMethod yJx4a65c_size_8abf5 ∈ GW := gw1 (i := 106) (by decide +kernel) (by decide +kernel)
theorem se_Jx4a65c_size_8abf5 : Cond.selects RJx4a65c yJx4a65c_size_8abf5 yJx4a65c_size_8abf5 ∈ GW := gw1 (i := 107) (by decide +kernel) (by decide +kernel)
theorem co_Jx4a65c_size_8abf5 : Cond.code yJx4a65c_size_8abf5 cJx4a65c_size_8abf5 1 (some .int) ∈ GW := gw1 (i := 108) (by decide +kernel) (by decide +kernel)
theorem ml_L_162 : Cond.methodLink RL 162 yX2_overdue ∈ GW := gw1 (i := 109) (by decide +kernel) (by decide +kernel)
theorem im_X2_overdue : Cond.instanceMethod yX2_overdue ∈ GW := gw1 (i := 110) (by decide +kernel) (by decide +kernel)
theorem se_X2_overdue : Cond.selects RX2 yX2_overdue yX2_overdue ∈ GW := gw1 (i := 111) (by decide +kernel) (by decide +kernel)
theorem co_X2_overdue : Cond.code yX2_overdue cX2_overdue 4 (some .int) ∈ GW := gw1 (i := 112) (by decide +kernel) (by decide +kernel)
theorem ml_X2_43 : Cond.methodLink RX2 43 yJx4a65c_get_915e3 ∈ GW := gw1 (i := 113) (by decide +kernel) (by decide +kernel)
theorem im_Jx4a65c_get_915e3 : Cond.instanceMethod yJx4a65c_get_915e3 ∈ GW := gw1 (i := 114) (by decide +kernel) (by decide +kernel)
theorem se_Jx4a65c_get_915e3 : Cond.selects RJx4a65c yJx4a65c_get_915e3 yJx4a65c_get_915e3 ∈ GW := gw1 (i := 115) (by decide +kernel) (by decide +kernel)
theorem co_Jx4a65c_get_915e3 : Cond.code yJx4a65c_get_915e3 cJx4a65c_get_915e3 2 (some (.object "java/lang/Object")) ∈ GW := gw1 (i := 116) (by decide +kernel) (by decide +kernel)
theorem ml_Jx4a65c_118 : Cond.methodLink RJx4a65c 118 yJ15_checkIndex_7cf53 ∈ GW := gw1 (i := 117) (by decide +kernel) (by decide +kernel)
theorem st_J15_checkIndex_7cf53 : Cond.static yJ15_checkIndex_7cf53 ∈ GW := gw1 (i := 118) (by decide +kernel) (by decide +kernel)
theorem co_J15_checkIndex_7cf53 : Cond.code yJ15_checkIndex_7cf53 cJ15_checkIndex_7cf53 2 (some .int) ∈ GW := gw1 (i := 119) (by decide +kernel) (by decide +kernel)
theorem ml_J15_105 : Cond.methodLink RJ15 105 yJ3_checkIndex_8e157 ∈ GW := gw1 (i := 120) (by decide +kernel) (by decide +kernel)
theorem st_J3_checkIndex_8e157 : Cond.static yJ3_checkIndex_8e157 ∈ GW := gw1 (i := 121) (by decide +kernel) (by decide +kernel)
theorem co_J3_checkIndex_8e157 : Cond.code yJ3_checkIndex_8e157 cJ3_checkIndex_8e157 3 (some .int) ∈ GW := gw1 (i := 122) (by decide +kernel) (by decide +kernel)
theorem ml_Jx4a65c_123 : Cond.methodLink RJx4a65c 123 yJx4a65c_elementData_915e3 ∈ GW := gw1 (i := 123) (by decide +kernel) (by decide +kernel)
theorem im_Jx4a65c_elementData_915e3 : Cond.instanceMethod yJx4a65c_elementData_915e3 ∈ GW := gw1 (i := 124) (by decide +kernel) (by decide +kernel)
theorem se_Jx4a65c_elementData_915e3 : Cond.selects RJx4a65c yJx4a65c_elementData_915e3 yJx4a65c_elementData_915e3 ∈ GW := gw1 (i := 125) (by decide +kernel) (by decide +kernel)
theorem co_Jx4a65c_elementData_915e3 : Cond.code yJx4a65c_elementData_915e3 cJx4a65c_elementData_915e3 2 (some (.object "java/lang/Object")) ∈ GW := gw1 (i := 126) (by decide +kernel) (by decide +kernel)
theorem cl_X2_47 : Cond.classLink RX2 47 RX1 ∈ GW := gw1 (i := 127) (by decide +kernel) (by decide +kernel)
theorem ml_X2_117 : Cond.methodLink RX2 117 yX1_countDueBefore ∈ GW := gw1 (i := 128) (by decide +kernel) (by decide +kernel)
theorem im_X1_countDueBefore : Cond.instanceMethod yX1_countDueBefore ∈ GW := gw1 (i := 129) (by decide +kernel) (by decide +kernel)
theorem se_X1_countDueBefore : Cond.selects RX1 yX1_countDueBefore yX1_countDueBefore ∈ GW := gw1 (i := 130) (by decide +kernel) (by decide +kernel)
theorem co_X1_countDueBefore : Cond.code yX1_countDueBefore cX1_countDueBefore 4 (some .int) ∈ GW := gw1 (i := 131) (by decide +kernel) (by decide +kernel)
theorem ml_X1_62 : Cond.methodLink RX1 62 yX1_isDueOn ∈ GW := gw1 (i := 132) (by decide +kernel) (by decide +kernel)
theorem im_X1_isDueOn : Cond.instanceMethod yX1_isDueOn ∈ GW := gw1 (i := 133) (by decide +kernel) (by decide +kernel)
theorem se_X1_isDueOn : Cond.selects RX1 yX1_isDueOn yX1_isDueOn ∈ GW := gw1 (i := 134) (by decide +kernel) (by decide +kernel)
theorem co_X1_isDueOn : Cond.code yX1_isDueOn cX1_isDueOn 2 (some .boolean) ∈ GW := gw1 (i := 135) (by decide +kernel) (by decide +kernel)
theorem ml_X2_153 : Cond.methodLink RX2 153 yJ9_max_7cf53 ∈ GW := gw1 (i := 137) (by decide +kernel) (by decide +kernel)
theorem st_J9_max_7cf53 : Cond.static yJ9_max_7cf53 ∈ GW := gw1 (i := 138) (by decide +kernel) (by decide +kernel)
theorem co_J9_max_7cf53 : Cond.code yJ9_max_7cf53 cJ9_max_7cf53 2 (some .int) ∈ GW := gw1 (i := 139) (by decide +kernel) (by decide +kernel)
theorem ml_L_97 : Cond.methodLink RL 97 yL_holiday ∈ GW := gw1 (i := 140) (by decide +kernel) (by decide +kernel)
theorem st_L_holiday : Cond.static yL_holiday ∈ GW := gw1 (i := 141) (by decide +kernel) (by decide +kernel)
theorem co_L_holiday : Cond.codeWith yL_holiday cL_holiday 4 (some .int) [(0, 16, 19, 13)] ∈ GW := gw1 (i := 142) (by decide +kernel) (by decide +kernel)
theorem cl_L_13 : Cond.classLink RL 13 "java/lang/IndexOutOfBoundsException" ∈ GW := gw1 (i := 143) (by decide +kernel) (by decide +kernel)
theorem ml_L_7 : Cond.methodLink RL 7 yX2_holiday ∈ GW := gw1 (i := 144) (by decide +kernel) (by decide +kernel)
theorem im_X2_holiday : Cond.instanceMethod yX2_holiday ∈ GW := gw1 (i := 145) (by decide +kernel) (by decide +kernel)
theorem se_X2_holiday : Cond.selects RX2 yX2_holiday yX2_holiday ∈ GW := gw1 (i := 146) (by decide +kernel) (by decide +kernel)
theorem co_X2_holiday : Cond.code yX2_holiday cX2_holiday 4 (some .boolean) ∈ GW := gw1 (i := 147) (by decide +kernel) (by decide +kernel)
theorem ml_X2_31 : Cond.methodLink RX2 31 yX2_checkDay ∈ GW := gw1 (i := 148) (by decide +kernel) (by decide +kernel)
theorem st_X2_checkDay : Cond.static yX2_checkDay ∈ GW := gw1 (i := 149) (by decide +kernel) (by decide +kernel)
theorem co_X2_checkDay : Cond.code yX2_checkDay cX2_checkDay 1 none ∈ GW := gw1 (i := 150) (by decide +kernel) (by decide +kernel)
theorem ml_X2_181 : Cond.methodLink RX2 181 yX2_isDay ∈ GW := gw1 (i := 151) (by decide +kernel) (by decide +kernel)
theorem cl_X2_184 : Cond.classLink RX2 184 "java/lang/IndexOutOfBoundsException" ∈ GW := gw1 (i := 152) (by decide +kernel) (by decide +kernel)
theorem it_IndexOutOfBoundsException : Cond.instantiable "java/lang/IndexOutOfBoundsException" 6 ∈ GW := gw1 (i := 153) (by decide +kernel) (by decide +kernel)
theorem it_Throwable : Cond.instantiable "java/lang/Throwable" 6 ∈ GW := gw1 (i := 192) (by decide +kernel) (by decide +kernel)
theorem ac_byte : Cond.arrayClass .byte ∈ GW := gw1 (i := 220) (by decide +kernel) (by decide +kernel)
theorem ml_X2_35 : Cond.methodLink RX2 35 yX0_toggleHoliday ∈ GW := gw1 (i := 221) (by decide +kernel) (by decide +kernel)
theorem im_X0_toggleHoliday : Cond.instanceMethod yX0_toggleHoliday ∈ GW := gw1 (i := 222) (by decide +kernel) (by decide +kernel)
theorem se_X0_toggleHoliday : Cond.selects RX0 yX0_toggleHoliday yX0_toggleHoliday ∈ GW := gw1 (i := 223) (by decide +kernel) (by decide +kernel)
theorem co_X0_toggleHoliday : Cond.code yX0_toggleHoliday cX0_toggleHoliday 2 (some .boolean) ∈ GW := gw1 (i := 224) (by decide +kernel) (by decide +kernel)
theorem ml_X2_49 : Cond.methodLink RX2 49 yX1_layDueDays ∈ GW := gw1 (i := 225) (by decide +kernel) (by decide +kernel)
theorem im_X1_layDueDays : Cond.instanceMethod yX1_layDueDays ∈ GW := gw1 (i := 226) (by decide +kernel) (by decide +kernel)
theorem se_X1_layDueDays : Cond.selects RX1 yX1_layDueDays yX1_layDueDays ∈ GW := gw1 (i := 227) (by decide +kernel) (by decide +kernel)
theorem co_X1_layDueDays : Cond.code yX1_layDueDays cX1_layDueDays 6 none ∈ GW := gw1 (i := 228) (by decide +kernel) (by decide +kernel)
theorem ml_X1_49 : Cond.methodLink RX1 49 yX0_works ∈ GW := gw1 (i := 229) (by decide +kernel) (by decide +kernel)
theorem ml_X1_55 : Cond.methodLink RX1 55 yX1_isNominal ∈ GW := gw1 (i := 230) (by decide +kernel) (by decide +kernel)
theorem im_X1_isNominal : Cond.instanceMethod yX1_isNominal ∈ GW := gw1 (i := 232) (by decide +kernel) (by decide +kernel)
theorem it_X1 : Cond.instantiable RX1 12 ∈ GW := gw1 (i := 233) (by decide +kernel) (by decide +kernel)
theorem co_X1_isNominal : Cond.code yX1_isNominal cX1_isNominal 3 (some .boolean) ∈ GW := gw1 (i := 234) (by decide +kernel) (by decide +kernel)
theorem ml_X1_72 : Cond.methodLink RX1 72 yX0_numberFromStart ∈ GW := gw1 (i := 235) (by decide +kernel) (by decide +kernel)
theorem im_X0_numberFromStart : Cond.instanceMethod yX0_numberFromStart ∈ GW := gw1 (i := 236) (by decide +kernel) (by decide +kernel)
theorem se_X0_numberFromStart : Cond.selects RX0 yX0_numberFromStart yX0_numberFromStart ∈ GW := gw1 (i := 237) (by decide +kernel) (by decide +kernel)
theorem co_X0_numberFromStart : Cond.code yX0_numberFromStart cX0_numberFromStart 2 (some .int) ∈ GW := gw1 (i := 238) (by decide +kernel) (by decide +kernel)
theorem ml_X1_75 : Cond.methodLink RX1 75 yX0_numberFromEnd ∈ GW := gw1 (i := 239) (by decide +kernel) (by decide +kernel)
theorem im_X0_numberFromEnd : Cond.instanceMethod yX0_numberFromEnd ∈ GW := gw2 (i := 0) (by decide +kernel) (by decide +kernel)
theorem se_X0_numberFromEnd : Cond.selects RX0 yX0_numberFromEnd yX0_numberFromEnd ∈ GW := gw2 (i := 1) (by decide +kernel) (by decide +kernel)
theorem co_X0_numberFromEnd : Cond.code yX0_numberFromEnd cX0_numberFromEnd 2 (some .int) ∈ GW := gw2 (i := 2) (by decide +kernel) (by decide +kernel)
theorem ml_L_107 : Cond.methodLink RL 107 yL_isWorking ∈ GW := gw2 (i := 3) (by decide +kernel) (by decide +kernel)
theorem st_L_isWorking : Cond.static yL_isWorking ∈ GW := gw2 (i := 4) (by decide +kernel) (by decide +kernel)
theorem co_L_isWorking : Cond.codeWith yL_isWorking cL_isWorking 4 (some .int) [(0, 16, 19, 13)] ∈ GW := gw2 (i := 5) (by decide +kernel) (by decide +kernel)
theorem ml_L_15 : Cond.methodLink RL 15 yX2_isWorking ∈ GW := gw2 (i := 6) (by decide +kernel) (by decide +kernel)
theorem im_X2_isWorking : Cond.instanceMethod yX2_isWorking ∈ GW := gw2 (i := 7) (by decide +kernel) (by decide +kernel)
theorem se_X2_isWorking : Cond.selects RX2 yX2_isWorking yX2_isWorking ∈ GW := gw2 (i := 8) (by decide +kernel) (by decide +kernel)
theorem co_X2_isWorking : Cond.code yX2_isWorking cX2_isWorking 2 (some .boolean) ∈ GW := gw2 (i := 9) (by decide +kernel) (by decide +kernel)
theorem ml_X2_53 : Cond.methodLink RX2 53 yX0_works ∈ GW := gw2 (i := 10) (by decide +kernel) (by decide +kernel)
theorem ml_L_110 : Cond.methodLink RL 110 yL_workingDays ∈ GW := gw2 (i := 11) (by decide +kernel) (by decide +kernel)
theorem st_L_workingDays : Cond.static yL_workingDays ∈ GW := gw2 (i := 12) (by decide +kernel) (by decide +kernel)
theorem co_L_workingDays : Cond.codeWith yL_workingDays cL_workingDays 5 (some .int) [(0, 10, 13, 13), (0, 10, 17, 22)] ∈ GW := gw2 (i := 13) (by decide +kernel) (by decide +kernel)
theorem cl_L_22 : Cond.classLink RL 22 "java/lang/IllegalArgumentException" ∈ GW := gw2 (i := 14) (by decide +kernel) (by decide +kernel)
theorem ml_L_18 : Cond.methodLink RL 18 yX2_workingDays ∈ GW := gw2 (i := 15) (by decide +kernel) (by decide +kernel)
theorem im_X2_workingDays : Cond.instanceMethod yX2_workingDays ∈ GW := gw2 (i := 16) (by decide +kernel) (by decide +kernel)
theorem se_X2_workingDays : Cond.selects RX2 yX2_workingDays yX2_workingDays ∈ GW := gw2 (i := 17) (by decide +kernel) (by decide +kernel)
theorem co_X2_workingDays : Cond.code yX2_workingDays cX2_workingDays 5 (some .int) ∈ GW := gw2 (i := 18) (by decide +kernel) (by decide +kernel)
theorem ml_X2_56 : Cond.methodLink RX2 56 yX2_checkSpan ∈ GW := gw2 (i := 19) (by decide +kernel) (by decide +kernel)
theorem st_X2_checkSpan : Cond.static yX2_checkSpan ∈ GW := gw2 (i := 20) (by decide +kernel) (by decide +kernel)
theorem co_X2_checkSpan : Cond.code yX2_checkSpan cX2_checkSpan 2 none ∈ GW := gw2 (i := 21) (by decide +kernel) (by decide +kernel)
theorem cl_X2_189 : Cond.classLink RX2 189 "java/lang/IllegalArgumentException" ∈ GW := gw2 (i := 22) (by decide +kernel) (by decide +kernel)
theorem it_IllegalArgumentException : Cond.instantiable "java/lang/IllegalArgumentException" 6 ∈ GW := gw2 (i := 23) (by decide +kernel) (by decide +kernel)
theorem ml_L_114 : Cond.methodLink RL 114 yL_pass ∈ GW := gw2 (i := 38) (by decide +kernel) (by decide +kernel)
theorem st_L_pass : Cond.static yL_pass ∈ GW := gw2 (i := 39) (by decide +kernel) (by decide +kernel)
theorem co_L_pass : Cond.codeWith yL_pass cL_pass 4 (some .int) [(0, 9, 12, 22), (0, 9, 15, 28)] ∈ GW := gw2 (i := 40) (by decide +kernel) (by decide +kernel)
theorem cl_L_28 : Cond.classLink RL 28 "java/lang/IllegalStateException" ∈ GW := gw2 (i := 41) (by decide +kernel) (by decide +kernel)
theorem ml_L_24 : Cond.methodLink RL 24 yX2_pass ∈ GW := gw2 (i := 42) (by decide +kernel) (by decide +kernel)
theorem im_X2_pass : Cond.instanceMethod yX2_pass ∈ GW := gw2 (i := 43) (by decide +kernel) (by decide +kernel)
theorem se_X2_pass : Cond.selects RX2 yX2_pass yX2_pass ∈ GW := gw2 (i := 44) (by decide +kernel) (by decide +kernel)
theorem co_X2_pass : Cond.code yX2_pass cX2_pass 2 (some .int) ∈ GW := gw2 (i := 45) (by decide +kernel) (by decide +kernel)
theorem ml_X2_60 : Cond.methodLink RX2 60 yX2_checkRange ∈ GW := gw2 (i := 46) (by decide +kernel) (by decide +kernel)
theorem st_X2_checkRange : Cond.static yX2_checkRange ∈ GW := gw2 (i := 47) (by decide +kernel) (by decide +kernel)
theorem co_X2_checkRange : Cond.code yX2_checkRange cX2_checkRange 3 none ∈ GW := gw2 (i := 48) (by decide +kernel) (by decide +kernel)
theorem cl_X2_64 : Cond.classLink RX2 64 "java/lang/IllegalStateException" ∈ GW := gw2 (i := 50) (by decide +kernel) (by decide +kernel)
theorem it_IllegalStateException : Cond.instantiable "java/lang/IllegalStateException" 6 ∈ GW := gw2 (i := 51) (by decide +kernel) (by decide +kernel)
theorem ml_L_121 : Cond.methodLink RL 121 yL_addRule ∈ GW := gw2 (i := 66) (by decide +kernel) (by decide +kernel)
theorem st_L_addRule : Cond.static yL_addRule ∈ GW := gw2 (i := 67) (by decide +kernel) (by decide +kernel)
theorem co_L_addRule : Cond.codeWith yL_addRule cL_addRule 9 (some .int) [(0, 18, 21, 13), (0, 18, 25, 22), (0, 18, 29, 28)] ∈ GW := gw2 (i := 68) (by decide +kernel) (by decide +kernel)
theorem ml_L_30 : Cond.methodLink RL 30 yX2_addRule ∈ GW := gw2 (i := 69) (by decide +kernel) (by decide +kernel)
theorem im_X2_addRule : Cond.instanceMethod yX2_addRule ∈ GW := gw2 (i := 70) (by decide +kernel) (by decide +kernel)
theorem se_X2_addRule : Cond.selects RX2 yX2_addRule yX2_addRule ∈ GW := gw2 (i := 71) (by decide +kernel) (by decide +kernel)
theorem co_X2_addRule : Cond.code yX2_addRule cX2_addRule 8 (some .int) ∈ GW := gw2 (i := 72) (by decide +kernel) (by decide +kernel)
theorem ml_X2_71 : Cond.methodLink RX2 71 yX2_checkKind ∈ GW := gw2 (i := 73) (by decide +kernel) (by decide +kernel)
theorem st_X2_checkKind : Cond.static yX2_checkKind ∈ GW := gw2 (i := 74) (by decide +kernel) (by decide +kernel)
theorem co_X2_checkKind : Cond.code yX2_checkKind cX2_checkKind 2 none ∈ GW := gw2 (i := 75) (by decide +kernel) (by decide +kernel)
theorem ml_X2_74 : Cond.methodLink RX2 74 yX2_checkShift ∈ GW := gw2 (i := 76) (by decide +kernel) (by decide +kernel)
theorem st_X2_checkShift : Cond.static yX2_checkShift ∈ GW := gw2 (i := 77) (by decide +kernel) (by decide +kernel)
theorem co_X2_checkShift : Cond.code yX2_checkShift cX2_checkShift 1 none ∈ GW := gw2 (i := 78) (by decide +kernel) (by decide +kernel)
theorem ml_X2_79 : Cond.methodLink RX2 79 yX1_init ∈ GW := gw2 (i := 80) (by decide +kernel) (by decide +kernel)
theorem im_X1_init : Cond.instanceMethod yX1_init ∈ GW := gw2 (i := 81) (by decide +kernel) (by decide +kernel)
theorem co_X1_init : Cond.code yX1_init cX1_init 7 none ∈ GW := gw2 (i := 82) (by decide +kernel) (by decide +kernel)
theorem ml_X1_3 : Cond.methodLink RX1 3 objectInit ∈ GW := gw2 (i := 83) (by decide +kernel) (by decide +kernel)
theorem fl_X1_31 : Cond.fieldLink RX1 31 "Obligary$Rule" "kind" "I" ∈ GW := gw2 (i := 84) (by decide +kernel) (by decide +kernel)
theorem fl_X1_34 : Cond.fieldLink RX1 34 "Obligary$Rule" "n" "I" ∈ GW := gw2 (i := 85) (by decide +kernel) (by decide +kernel)
theorem fl_X1_40 : Cond.fieldLink RX1 40 "Obligary$Rule" "first" "I" ∈ GW := gw2 (i := 86) (by decide +kernel) (by decide +kernel)
theorem fl_X1_43 : Cond.fieldLink RX1 43 "Obligary$Rule" "effort" "I" ∈ GW := gw2 (i := 87) (by decide +kernel) (by decide +kernel)
theorem fl_X2_200 : Cond.fieldLink RX2 200 "Obligary$Rule" "effort" "I" ∈ GW := gw2 (i := 88) (by decide +kernel) (by decide +kernel)
theorem fl_X1_46 : Cond.fieldLink RX1 46 "Obligary$Rule" "validity" "I" ∈ GW := gw2 (i := 89) (by decide +kernel) (by decide +kernel)
theorem fl_X1_37 : Cond.fieldLink RX1 37 "Obligary$Rule" "shift" "I" ∈ GW := gw2 (i := 90) (by decide +kernel) (by decide +kernel)
theorem fl_X2_90 : Cond.fieldLink RX2 90 "Obligary$Rule" "shift" "I" ∈ GW := gw2 (i := 91) (by decide +kernel) (by decide +kernel)
theorem fl_X1_9 : Cond.fieldLink RX1 9 "Obligary$Rule" "required" "I" ∈ GW := gw2 (i := 92) (by decide +kernel) (by decide +kernel)
theorem fl_X2_101 : Cond.fieldLink RX2 101 "Obligary$Rule" "required" "I" ∈ GW := gw2 (i := 93) (by decide +kernel) (by decide +kernel)
theorem fl_X1_15 : Cond.fieldLink RX1 15 "Obligary$Rule" "needed" "I" ∈ GW := gw2 (i := 94) (by decide +kernel) (by decide +kernel)
theorem fl_X2_104 : Cond.fieldLink RX2 104 "Obligary$Rule" "needed" "I" ∈ GW := gw2 (i := 95) (by decide +kernel) (by decide +kernel)
theorem fl_X1_18 : Cond.fieldLink RX1 18 "Obligary$Rule" "finished" "I" ∈ GW := gw2 (i := 96) (by decide +kernel) (by decide +kernel)
theorem fl_X2_147 : Cond.fieldLink RX2 147 "Obligary$Rule" "finished" "I" ∈ GW := gw2 (i := 97) (by decide +kernel) (by decide +kernel)
theorem fl_X1_21 : Cond.fieldLink RX1 21 "Obligary$Rule" "evidenceFrom" "I" ∈ GW := gw2 (i := 98) (by decide +kernel) (by decide +kernel)
theorem fl_X2_150 : Cond.fieldLink RX2 150 "Obligary$Rule" "evidenceFrom" "I" ∈ GW := gw2 (i := 99) (by decide +kernel) (by decide +kernel)
theorem fl_X1_24 : Cond.fieldLink RX1 24 "Obligary$Rule" "foreseenDay" "I" ∈ GW := gw2 (i := 100) (by decide +kernel) (by decide +kernel)
theorem fl_X2_162 : Cond.fieldLink RX2 162 "Obligary$Rule" "foreseenDay" "I" ∈ GW := gw2 (i := 101) (by decide +kernel) (by decide +kernel)
theorem fl_X1_27 : Cond.fieldLink RX1 27 "Obligary$Rule" "dueDays" "[Z" ∈ GW := gw2 (i := 102) (by decide +kernel) (by decide +kernel)
theorem ml_X2_82 : Cond.methodLink RX2 82 yJx4a65c_add_9ea2d ∈ GW := gw2 (i := 128) (by decide +kernel) (by decide +kernel)
theorem im_Jx4a65c_add_9ea2d : Cond.instanceMethod yJx4a65c_add_9ea2d ∈ GW := gw2 (i := 129) (by decide +kernel) (by decide +kernel)
theorem se_Jx4a65c_add_9ea2d : Cond.selects RJx4a65c yJx4a65c_add_9ea2d yJx4a65c_add_9ea2d ∈ GW := gw2 (i := 130) (by decide +kernel) (by decide +kernel)
theorem co_Jx4a65c_add_9ea2d : Cond.code yJx4a65c_add_9ea2d cJx4a65c_add_9ea2d 2 (some .boolean) ∈ GW := gw2 (i := 131) (by decide +kernel) (by decide +kernel)
theorem ml_Jx4a65c_131 : Cond.methodLink RJx4a65c 131 yJx4a65c_add_72be8 ∈ GW := gw2 (i := 132) (by decide +kernel) (by decide +kernel)
theorem im_Jx4a65c_add_72be8 : Cond.instanceMethod yJx4a65c_add_72be8 ∈ GW := gw2 (i := 134) (by decide +kernel) (by decide +kernel)
theorem co_Jx4a65c_add_72be8 : Cond.code yJx4a65c_add_72be8 cJx4a65c_add_72be8 4 none ∈ GW := gw2 (i := 135) (by decide +kernel) (by decide +kernel)
theorem ml_Jx4a65c_129 : Cond.methodLink RJx4a65c 129 yJx4a65c_grow_d5877 ∈ GW := gw2 (i := 136) (by decide +kernel) (by decide +kernel)
theorem im_Jx4a65c_grow_d5877 : Cond.instanceMethod yJx4a65c_grow_d5877 ∈ GW := gw2 (i := 138) (by decide +kernel) (by decide +kernel)
theorem co_Jx4a65c_grow_d5877 : Cond.code yJx4a65c_grow_d5877 cJx4a65c_grow_d5877 1 (some (.array (.object "java/lang/Object"))) ∈ GW := gw2 (i := 139) (by decide +kernel) (by decide +kernel)
theorem ml_Jx4a65c_69 : Cond.methodLink RJx4a65c 69 yJx4a65c_grow_92f84 ∈ GW := gw2 (i := 140) (by decide +kernel) (by decide +kernel)
theorem im_Jx4a65c_grow_92f84 : Cond.instanceMethod yJx4a65c_grow_92f84 ∈ GW := gw2 (i := 142) (by decide +kernel) (by decide +kernel)
theorem co_Jx4a65c_grow_92f84 : Cond.code yJx4a65c_grow_92f84 cJx4a65c_grow_92f84 4 (some (.array (.object "java/lang/Object"))) ∈ GW := gw2 (i := 143) (by decide +kernel) (by decide +kernel)
theorem ml_Jx4a65c_73 : Cond.methodLink RJx4a65c 73 yJ8_newLength_cabcc ∈ GW := gw2 (i := 144) (by decide +kernel) (by decide +kernel)
theorem st_J8_newLength_cabcc : Cond.static yJ8_newLength_cabcc ∈ GW := gw2 (i := 145) (by decide +kernel) (by decide +kernel)
theorem co_J8_newLength_cabcc : Cond.code yJ8_newLength_cabcc cJ8_newLength_cabcc 4 (some .int) ∈ GW := gw2 (i := 146) (by decide +kernel) (by decide +kernel)
theorem ml_J8_194 : Cond.methodLink RJ8 194 yJ9_max_7cf53 ∈ GW := gw2 (i := 147) (by decide +kernel) (by decide +kernel)
theorem ml_J8_201 : Cond.methodLink RJ8 201 yJ8_hugeLength_7cf53 ∈ GW := gw2 (i := 149) (by decide +kernel) (by decide +kernel)
theorem st_J8_hugeLength_7cf53 : Cond.static yJ8_hugeLength_7cf53 ∈ GW := gw2 (i := 150) (by decide +kernel) (by decide +kernel)
theorem co_J8_hugeLength_7cf53 : Cond.code yJ8_hugeLength_7cf53 cJ8_hugeLength_7cf53 3 (some .int) ∈ GW := gw2 (i := 151) (by decide +kernel) (by decide +kernel)
theorem ml_Jx4a65c_66 : Cond.methodLink RJx4a65c 66 yJ7_copyOf_1904c ∈ GW := gw2 (i := 152) (by decide +kernel) (by decide +kernel)
theorem st_J7_copyOf_1904c : Cond.static yJ7_copyOf_1904c ∈ GW := gw2 (i := 153) (by decide +kernel) (by decide +kernel)
theorem co_J7_copyOf_1904c : Cond.code yJ7_copyOf_1904c cJ7_copyOf_1904c 2 (some (.array (.object "java/lang/Object"))) ∈ GW := gw2 (i := 154) (by decide +kernel) (by decide +kernel)
theorem ml_J7_300 : Cond.methodLink RJ7 300 yJ7_copyOf_6403c ∈ GW := gw2 (i := 168) (by decide +kernel) (by decide +kernel)
theorem st_J7_copyOf_6403c : Cond.static yJ7_copyOf_6403c ∈ GW := gw2 (i := 169) (by decide +kernel) (by decide +kernel)
theorem co_J7_copyOf_6403c : Cond.code yJ7_copyOf_6403c cJ7_copyOf_6403c 4 (some (.array (.object "java/lang/Object"))) ∈ GW := gw2 (i := 170) (by decide +kernel) (by decide +kernel)
theorem cl_J7_110 : Cond.classLink RJ7 110 "[Ljava/lang/Object;" ∈ GW := gw2 (i := 171) (by decide +kernel) (by decide +kernel)
theorem cl_J7_2 : Cond.classLink RJ7 2 "java/lang/Object" ∈ GW := gw2 (i := 173) (by decide +kernel) (by decide +kernel)
theorem ml_J7_304 : Cond.methodLink RJ7 304 yJ9_min_7cf53 ∈ GW := gw2 (i := 174) (by decide +kernel) (by decide +kernel)
theorem st_J9_min_7cf53 : Cond.static yJ9_min_7cf53 ∈ GW := gw2 (i := 175) (by decide +kernel) (by decide +kernel)
theorem co_J9_min_7cf53 : Cond.code yJ9_min_7cf53 cJ9_min_7cf53 2 (some .int) ∈ GW := gw2 (i := 176) (by decide +kernel) (by decide +kernel)
theorem ml_Jx4a65c_79 : Cond.methodLink RJx4a65c 79 yJ9_max_7cf53 ∈ GW := gw2 (i := 180) (by decide +kernel) (by decide +kernel)
theorem cl_Jx4a65c_7 : Cond.classLink RJx4a65c 7 "java/lang/Object" ∈ GW := gw2 (i := 181) (by decide +kernel) (by decide +kernel)
theorem ml_L_125 : Cond.methodLink RL 125 yL_setShift ∈ GW := gw2 (i := 182) (by decide +kernel) (by decide +kernel)
theorem st_L_setShift : Cond.static yL_setShift ∈ GW := gw2 (i := 183) (by decide +kernel) (by decide +kernel)
theorem co_L_setShift : Cond.codeWith yL_setShift cL_setShift 5 (some .int) [(0, 10, 13, 13), (0, 10, 17, 22)] ∈ GW := gw2 (i := 184) (by decide +kernel) (by decide +kernel)
theorem ml_L_34 : Cond.methodLink RL 34 yX2_setShift ∈ GW := gw2 (i := 185) (by decide +kernel) (by decide +kernel)
theorem im_X2_setShift : Cond.instanceMethod yX2_setShift ∈ GW := gw2 (i := 186) (by decide +kernel) (by decide +kernel)
theorem se_X2_setShift : Cond.selects RX2 yX2_setShift yX2_setShift ∈ GW := gw2 (i := 187) (by decide +kernel) (by decide +kernel)
theorem co_X2_setShift : Cond.code yX2_setShift cX2_setShift 5 (some .int) ∈ GW := gw2 (i := 188) (by decide +kernel) (by decide +kernel)
theorem ml_X2_86 : Cond.methodLink RX2 86 yX2_ruleAt ∈ GW := gw2 (i := 189) (by decide +kernel) (by decide +kernel)
theorem im_X2_ruleAt : Cond.instanceMethod yX2_ruleAt ∈ GW := gw2 (i := 191) (by decide +kernel) (by decide +kernel)
theorem co_X2_ruleAt : Cond.code yX2_ruleAt cX2_ruleAt 2 (some (.object "Obligary$Rule")) ∈ GW := gw2 (i := 192) (by decide +kernel) (by decide +kernel)
theorem ml_L_128 : Cond.methodLink RL 128 yL_require ∈ GW := gw2 (i := 194) (by decide +kernel) (by decide +kernel)
theorem st_L_require : Cond.static yL_require ∈ GW := gw2 (i := 195) (by decide +kernel) (by decide +kernel)
theorem co_L_require : Cond.codeWith yL_require cL_require 5 (some .int) [(0, 17, 20, 13), (0, 17, 24, 28)] ∈ GW := gw2 (i := 196) (by decide +kernel) (by decide +kernel)
theorem ml_L_37 : Cond.methodLink RL 37 yX2_require ∈ GW := gw2 (i := 197) (by decide +kernel) (by decide +kernel)
theorem im_X2_require : Cond.instanceMethod yX2_require ∈ GW := gw2 (i := 198) (by decide +kernel) (by decide +kernel)
theorem se_X2_require : Cond.selects RX2 yX2_require yX2_require ∈ GW := gw2 (i := 199) (by decide +kernel) (by decide +kernel)
theorem co_X2_require : Cond.code yX2_require cX2_require 5 (some .boolean) ∈ GW := gw2 (i := 200) (by decide +kernel) (by decide +kernel)
theorem ml_X2_93 : Cond.methodLink RX2 93 yX1_needs ∈ GW := gw2 (i := 201) (by decide +kernel) (by decide +kernel)
theorem im_X1_needs : Cond.instanceMethod yX1_needs ∈ GW := gw2 (i := 202) (by decide +kernel) (by decide +kernel)
theorem se_X1_needs : Cond.selects RX1 yX1_needs yX1_needs ∈ GW := gw2 (i := 203) (by decide +kernel) (by decide +kernel)
theorem co_X1_needs : Cond.code yX1_needs cX1_needs 2 (some .boolean) ∈ GW := gw2 (i := 204) (by decide +kernel) (by decide +kernel)
theorem ml_X2_98 : Cond.methodLink RX2 98 yX1_requires ∈ GW := gw2 (i := 206) (by decide +kernel) (by decide +kernel)
theorem im_X1_requires : Cond.instanceMethod yX1_requires ∈ GW := gw2 (i := 207) (by decide +kernel) (by decide +kernel)
theorem se_X1_requires : Cond.selects RX1 yX1_requires yX1_requires ∈ GW := gw2 (i := 208) (by decide +kernel) (by decide +kernel)
theorem co_X1_requires : Cond.code yX1_requires cX1_requires 2 (some .boolean) ∈ GW := gw2 (i := 209) (by decide +kernel) (by decide +kernel)
theorem ml_X2_107 : Cond.methodLink RX2 107 yX2_spreadNeeds ∈ GW := gw2 (i := 210) (by decide +kernel) (by decide +kernel)
theorem im_X2_spreadNeeds : Cond.instanceMethod yX2_spreadNeeds ∈ GW := gw2 (i := 212) (by decide +kernel) (by decide +kernel)
theorem co_X2_spreadNeeds : Cond.code yX2_spreadNeeds cX2_spreadNeeds 5 none ∈ GW := gw2 (i := 213) (by decide +kernel) (by decide +kernel)
theorem ml_L_135 : Cond.methodLink RL 135 yL_dueDay ∈ GW := gw2 (i := 214) (by decide +kernel) (by decide +kernel)
theorem st_L_dueDay : Cond.static yL_dueDay ∈ GW := gw2 (i := 215) (by decide +kernel) (by decide +kernel)
theorem co_L_dueDay : Cond.codeWith yL_dueDay cL_dueDay 5 (some .int) [(0, 10, 13, 13)] ∈ GW := gw2 (i := 216) (by decide +kernel) (by decide +kernel)
theorem ml_L_41 : Cond.methodLink RL 41 yX2_dueDay ∈ GW := gw2 (i := 217) (by decide +kernel) (by decide +kernel)
theorem im_X2_dueDay : Cond.instanceMethod yX2_dueDay ∈ GW := gw2 (i := 218) (by decide +kernel) (by decide +kernel)
theorem se_X2_dueDay : Cond.selects RX2 yX2_dueDay yX2_dueDay ∈ GW := gw2 (i := 219) (by decide +kernel) (by decide +kernel)
theorem co_X2_dueDay : Cond.code yX2_dueDay cX2_dueDay 4 (some .int) ∈ GW := gw2 (i := 220) (by decide +kernel) (by decide +kernel)
theorem ml_X2_110 : Cond.methodLink RX2 110 yX2_checkPlace ∈ GW := gw2 (i := 221) (by decide +kernel) (by decide +kernel)
theorem st_X2_checkPlace : Cond.static yX2_checkPlace ∈ GW := gw2 (i := 222) (by decide +kernel) (by decide +kernel)
theorem co_X2_checkPlace : Cond.code yX2_checkPlace cX2_checkPlace 1 none ∈ GW := gw2 (i := 223) (by decide +kernel) (by decide +kernel)
theorem ml_X2_113 : Cond.methodLink RX2 113 yX1_dayOfDuty ∈ GW := gw2 (i := 225) (by decide +kernel) (by decide +kernel)
theorem im_X1_dayOfDuty : Cond.instanceMethod yX1_dayOfDuty ∈ GW := gw2 (i := 226) (by decide +kernel) (by decide +kernel)
theorem se_X1_dayOfDuty : Cond.selects RX1 yX1_dayOfDuty yX1_dayOfDuty ∈ GW := gw2 (i := 227) (by decide +kernel) (by decide +kernel)
theorem co_X1_dayOfDuty : Cond.code yX1_dayOfDuty cX1_dayOfDuty 4 (some .int) ∈ GW := gw2 (i := 228) (by decide +kernel) (by decide +kernel)
theorem ml_L_138 : Cond.methodLink RL 138 yL_duties ∈ GW := gw2 (i := 229) (by decide +kernel) (by decide +kernel)
theorem st_L_duties : Cond.static yL_duties ∈ GW := gw2 (i := 230) (by decide +kernel) (by decide +kernel)
theorem co_L_duties : Cond.codeWith yL_duties cL_duties 4 (some .int) [(0, 9, 12, 13)] ∈ GW := gw2 (i := 231) (by decide +kernel) (by decide +kernel)
theorem ml_L_44 : Cond.methodLink RL 44 yX2_duties ∈ GW := gw2 (i := 232) (by decide +kernel) (by decide +kernel)
theorem im_X2_duties : Cond.instanceMethod yX2_duties ∈ GW := gw2 (i := 233) (by decide +kernel) (by decide +kernel)
theorem se_X2_duties : Cond.selects RX2 yX2_duties yX2_duties ∈ GW := gw2 (i := 234) (by decide +kernel) (by decide +kernel)
theorem co_X2_duties : Cond.code yX2_duties cX2_duties 2 (some .int) ∈ GW := gw2 (i := 235) (by decide +kernel) (by decide +kernel)
theorem ml_L_141 : Cond.methodLink RL 141 yL_nextDue ∈ GW := gw2 (i := 236) (by decide +kernel) (by decide +kernel)
theorem st_L_nextDue : Cond.static yL_nextDue ∈ GW := gw2 (i := 237) (by decide +kernel) (by decide +kernel)
theorem co_L_nextDue : Cond.codeWith yL_nextDue cL_nextDue 5 (some .int) [(0, 10, 13, 13)] ∈ GW := gw2 (i := 238) (by decide +kernel) (by decide +kernel)
theorem ml_L_47 : Cond.methodLink RL 47 yX2_nextDue ∈ GW := gw2 (i := 239) (by decide +kernel) (by decide +kernel)
theorem im_X2_nextDue : Cond.instanceMethod yX2_nextDue ∈ GW := gw3 (i := 0) (by decide +kernel) (by decide +kernel)
theorem se_X2_nextDue : Cond.selects RX2 yX2_nextDue yX2_nextDue ∈ GW := gw3 (i := 1) (by decide +kernel) (by decide +kernel)
theorem co_X2_nextDue : Cond.code yX2_nextDue cX2_nextDue 4 (some .int) ∈ GW := gw3 (i := 2) (by decide +kernel) (by decide +kernel)
theorem ml_X2_120 : Cond.methodLink RX2 120 yX1_firstDueFrom ∈ GW := gw3 (i := 3) (by decide +kernel) (by decide +kernel)
theorem im_X1_firstDueFrom : Cond.instanceMethod yX1_firstDueFrom ∈ GW := gw3 (i := 4) (by decide +kernel) (by decide +kernel)
theorem se_X1_firstDueFrom : Cond.selects RX1 yX1_firstDueFrom yX1_firstDueFrom ∈ GW := gw3 (i := 5) (by decide +kernel) (by decide +kernel)
theorem co_X1_firstDueFrom : Cond.code yX1_firstDueFrom cX1_firstDueFrom 3 (some .int) ∈ GW := gw3 (i := 6) (by decide +kernel) (by decide +kernel)
theorem ml_L_144 : Cond.methodLink RL 144 yL_nextDueByWalking ∈ GW := gw3 (i := 7) (by decide +kernel) (by decide +kernel)
theorem st_L_nextDueByWalking : Cond.static yL_nextDueByWalking ∈ GW := gw3 (i := 8) (by decide +kernel) (by decide +kernel)
theorem co_L_nextDueByWalking : Cond.codeWith yL_nextDueByWalking cL_nextDueByWalking 5 (some .int) [(0, 10, 13, 13)] ∈ GW := gw3 (i := 9) (by decide +kernel) (by decide +kernel)
theorem ml_L_50 : Cond.methodLink RL 50 yX2_nextDueByWalking ∈ GW := gw3 (i := 10) (by decide +kernel) (by decide +kernel)
theorem im_X2_nextDueByWalking : Cond.instanceMethod yX2_nextDueByWalking ∈ GW := gw3 (i := 11) (by decide +kernel) (by decide +kernel)
theorem se_X2_nextDueByWalking : Cond.selects RX2 yX2_nextDueByWalking yX2_nextDueByWalking ∈ GW := gw3 (i := 12) (by decide +kernel) (by decide +kernel)
theorem co_X2_nextDueByWalking : Cond.code yX2_nextDueByWalking cX2_nextDueByWalking 4 (some .int) ∈ GW := gw3 (i := 13) (by decide +kernel) (by decide +kernel)
theorem ml_X2_123 : Cond.methodLink RX2 123 yX1_walkToDue ∈ GW := gw3 (i := 14) (by decide +kernel) (by decide +kernel)
theorem im_X1_walkToDue : Cond.instanceMethod yX1_walkToDue ∈ GW := gw3 (i := 15) (by decide +kernel) (by decide +kernel)
theorem se_X1_walkToDue : Cond.selects RX1 yX1_walkToDue yX1_walkToDue ∈ GW := gw3 (i := 16) (by decide +kernel) (by decide +kernel)
theorem co_X1_walkToDue : Cond.code yX1_walkToDue cX1_walkToDue 4 (some .int) ∈ GW := gw3 (i := 17) (by decide +kernel) (by decide +kernel)
theorem ml_X1_69 : Cond.methodLink RX1 69 yX1_isMovedTo ∈ GW := gw3 (i := 18) (by decide +kernel) (by decide +kernel)
theorem im_X1_isMovedTo : Cond.instanceMethod yX1_isMovedTo ∈ GW := gw3 (i := 20) (by decide +kernel) (by decide +kernel)
theorem co_X1_isMovedTo : Cond.code yX1_isMovedTo cX1_isMovedTo 5 (some .boolean) ∈ GW := gw3 (i := 21) (by decide +kernel) (by decide +kernel)
theorem ml_L_147 : Cond.methodLink RL 147 yL_upcoming ∈ GW := gw3 (i := 22) (by decide +kernel) (by decide +kernel)
theorem st_L_upcoming : Cond.static yL_upcoming ∈ GW := gw3 (i := 23) (by decide +kernel) (by decide +kernel)
theorem co_L_upcoming : Cond.codeWith yL_upcoming cL_upcoming 5 (some .int) [(0, 10, 13, 13)] ∈ GW := gw3 (i := 24) (by decide +kernel) (by decide +kernel)
theorem ml_L_53 : Cond.methodLink RL 53 yX2_upcoming ∈ GW := gw3 (i := 25) (by decide +kernel) (by decide +kernel)
theorem im_X2_upcoming : Cond.instanceMethod yX2_upcoming ∈ GW := gw3 (i := 26) (by decide +kernel) (by decide +kernel)
theorem se_X2_upcoming : Cond.selects RX2 yX2_upcoming yX2_upcoming ∈ GW := gw3 (i := 27) (by decide +kernel) (by decide +kernel)
theorem co_X2_upcoming : Cond.code yX2_upcoming cX2_upcoming 6 (some .int) ∈ GW := gw3 (i := 28) (by decide +kernel) (by decide +kernel)
theorem ml_X2_127 : Cond.methodLink RX2 127 yX1_isDueOn ∈ GW := gw3 (i := 29) (by decide +kernel) (by decide +kernel)
theorem ml_L_150 : Cond.methodLink RL 150 yL_finish ∈ GW := gw3 (i := 30) (by decide +kernel) (by decide +kernel)
theorem st_L_finish : Cond.static yL_finish ∈ GW := gw3 (i := 31) (by decide +kernel) (by decide +kernel)
theorem co_L_finish : Cond.codeWith yL_finish cL_finish 4 (some .int) [(0, 9, 12, 13), (0, 9, 15, 59), (0, 9, 18, 28)] ∈ GW := gw3 (i := 32) (by decide +kernel) (by decide +kernel)
theorem cl_L_59 : Cond.classLink RL 59 "java/util/NoSuchElementException" ∈ GW := gw3 (i := 33) (by decide +kernel) (by decide +kernel)
theorem ml_L_56 : Cond.methodLink RL 56 yX2_finish ∈ GW := gw3 (i := 34) (by decide +kernel) (by decide +kernel)
theorem im_X2_finish : Cond.instanceMethod yX2_finish ∈ GW := gw3 (i := 35) (by decide +kernel) (by decide +kernel)
theorem se_X2_finish : Cond.selects RX2 yX2_finish yX2_finish ∈ GW := gw3 (i := 36) (by decide +kernel) (by decide +kernel)
theorem co_X2_finish : Cond.code yX2_finish cX2_finish 4 (some .int) ∈ GW := gw3 (i := 37) (by decide +kernel) (by decide +kernel)
theorem ml_X2_130 : Cond.methodLink RX2 130 yX1_openDay ∈ GW := gw3 (i := 38) (by decide +kernel) (by decide +kernel)
theorem im_X1_openDay : Cond.instanceMethod yX1_openDay ∈ GW := gw3 (i := 39) (by decide +kernel) (by decide +kernel)
theorem se_X1_openDay : Cond.selects RX1 yX1_openDay yX1_openDay ∈ GW := gw3 (i := 40) (by decide +kernel) (by decide +kernel)
theorem co_X1_openDay : Cond.code yX1_openDay cX1_openDay 1 (some .int) ∈ GW := gw3 (i := 41) (by decide +kernel) (by decide +kernel)
theorem ml_X1_65 : Cond.methodLink RX1 65 yX1_dayOfDuty ∈ GW := gw3 (i := 42) (by decide +kernel) (by decide +kernel)
theorem cl_X2_133 : Cond.classLink RX2 133 "java/util/NoSuchElementException" ∈ GW := gw3 (i := 43) (by decide +kernel) (by decide +kernel)
theorem it_NoSuchElementException : Cond.instantiable "java/util/NoSuchElementException" 6 ∈ GW := gw3 (i := 44) (by decide +kernel) (by decide +kernel)
theorem ml_X2_138 : Cond.methodLink RX2 138 yX2_foreseeOpenDuties ∈ GW := gw3 (i := 59) (by decide +kernel) (by decide +kernel)
theorem im_X2_foreseeOpenDuties : Cond.instanceMethod yX2_foreseeOpenDuties ∈ GW := gw3 (i := 61) (by decide +kernel) (by decide +kernel)
theorem co_X2_foreseeOpenDuties : Cond.code yX2_foreseeOpenDuties cX2_foreseeOpenDuties 3 none ∈ GW := gw3 (i := 62) (by decide +kernel) (by decide +kernel)
theorem ml_X2_141 : Cond.methodLink RX2 141 yX2_leastBlocker ∈ GW := gw3 (i := 63) (by decide +kernel) (by decide +kernel)
theorem im_X2_leastBlocker : Cond.instanceMethod yX2_leastBlocker ∈ GW := gw3 (i := 65) (by decide +kernel) (by decide +kernel)
theorem co_X2_leastBlocker : Cond.code yX2_leastBlocker cX2_leastBlocker 5 (some .int) ∈ GW := gw3 (i := 66) (by decide +kernel) (by decide +kernel)
theorem ml_L_153 : Cond.methodLink RL 153 yL_open ∈ GW := gw3 (i := 68) (by decide +kernel) (by decide +kernel)
theorem st_L_open : Cond.static yL_open ∈ GW := gw3 (i := 69) (by decide +kernel) (by decide +kernel)
theorem co_L_open : Cond.codeWith yL_open cL_open 4 (some .int) [(0, 9, 12, 13)] ∈ GW := gw3 (i := 70) (by decide +kernel) (by decide +kernel)
theorem ml_L_61 : Cond.methodLink RL 61 yX2_open ∈ GW := gw3 (i := 71) (by decide +kernel) (by decide +kernel)
theorem im_X2_open : Cond.instanceMethod yX2_open ∈ GW := gw3 (i := 72) (by decide +kernel) (by decide +kernel)
theorem se_X2_open : Cond.selects RX2 yX2_open yX2_open ∈ GW := gw3 (i := 73) (by decide +kernel) (by decide +kernel)
theorem co_X2_open : Cond.code yX2_open cX2_open 2 (some .int) ∈ GW := gw3 (i := 74) (by decide +kernel) (by decide +kernel)
theorem ml_L_156 : Cond.methodLink RL 156 yL_finished ∈ GW := gw3 (i := 75) (by decide +kernel) (by decide +kernel)
theorem st_L_finished : Cond.static yL_finished ∈ GW := gw3 (i := 76) (by decide +kernel) (by decide +kernel)
theorem co_L_finished : Cond.codeWith yL_finished cL_finished 4 (some .int) [(0, 9, 12, 13)] ∈ GW := gw3 (i := 77) (by decide +kernel) (by decide +kernel)
theorem ml_L_64 : Cond.methodLink RL 64 yX2_finished ∈ GW := gw3 (i := 78) (by decide +kernel) (by decide +kernel)
theorem im_X2_finished : Cond.instanceMethod yX2_finished ∈ GW := gw3 (i := 79) (by decide +kernel) (by decide +kernel)
theorem se_X2_finished : Cond.selects RX2 yX2_finished yX2_finished ∈ GW := gw3 (i := 80) (by decide +kernel) (by decide +kernel)
theorem co_X2_finished : Cond.code yX2_finished cX2_finished 2 (some .int) ∈ GW := gw3 (i := 81) (by decide +kernel) (by decide +kernel)
theorem ml_L_159 : Cond.methodLink RL 159 yL_blockedBy ∈ GW := gw3 (i := 82) (by decide +kernel) (by decide +kernel)
theorem st_L_blockedBy : Cond.static yL_blockedBy ∈ GW := gw3 (i := 83) (by decide +kernel) (by decide +kernel)
theorem co_L_blockedBy : Cond.codeWith yL_blockedBy cL_blockedBy 4 (some .int) [(0, 9, 12, 13)] ∈ GW := gw3 (i := 84) (by decide +kernel) (by decide +kernel)
theorem ml_L_67 : Cond.methodLink RL 67 yX2_blockedBy ∈ GW := gw3 (i := 85) (by decide +kernel) (by decide +kernel)
theorem im_X2_blockedBy : Cond.instanceMethod yX2_blockedBy ∈ GW := gw3 (i := 86) (by decide +kernel) (by decide +kernel)
theorem se_X2_blockedBy : Cond.selects RX2 yX2_blockedBy yX2_blockedBy ∈ GW := gw3 (i := 87) (by decide +kernel) (by decide +kernel)
theorem co_X2_blockedBy : Cond.code yX2_blockedBy cX2_blockedBy 3 (some .int) ∈ GW := gw3 (i := 88) (by decide +kernel) (by decide +kernel)
theorem ml_L_166 : Cond.methodLink RL 166 yL_order ∈ GW := gw3 (i := 89) (by decide +kernel) (by decide +kernel)
theorem st_L_order : Cond.static yL_order ∈ GW := gw3 (i := 90) (by decide +kernel) (by decide +kernel)
theorem co_L_order : Cond.codeWith yL_order cL_order 5 (some .int) [(0, 10, 13, 13)] ∈ GW := gw3 (i := 91) (by decide +kernel) (by decide +kernel)
theorem ml_L_70 : Cond.methodLink RL 70 yX2_order ∈ GW := gw3 (i := 92) (by decide +kernel) (by decide +kernel)
theorem im_X2_order : Cond.instanceMethod yX2_order ∈ GW := gw3 (i := 93) (by decide +kernel) (by decide +kernel)
theorem se_X2_order : Cond.selects RX2 yX2_order yX2_order ∈ GW := gw3 (i := 94) (by decide +kernel) (by decide +kernel)
theorem co_X2_order : Cond.code yX2_order cX2_order 6 (some .int) ∈ GW := gw3 (i := 95) (by decide +kernel) (by decide +kernel)
theorem ml_X2_159 : Cond.methodLink RX2 159 yX2_nextInOrder ∈ GW := gw3 (i := 96) (by decide +kernel) (by decide +kernel)
theorem im_X2_nextInOrder : Cond.instanceMethod yX2_nextInOrder ∈ GW := gw3 (i := 98) (by decide +kernel) (by decide +kernel)
theorem co_X2_nextInOrder : Cond.code yX2_nextInOrder cX2_nextInOrder 7 (some .int) ∈ GW := gw3 (i := 99) (by decide +kernel) (by decide +kernel)
theorem ml_L_169 : Cond.methodLink RL 169 yL_isCovered ∈ GW := gw3 (i := 100) (by decide +kernel) (by decide +kernel)
theorem st_L_isCovered : Cond.static yL_isCovered ∈ GW := gw3 (i := 101) (by decide +kernel) (by decide +kernel)
theorem co_L_isCovered : Cond.codeWith yL_isCovered cL_isCovered 5 (some .int) [(0, 17, 20, 13)] ∈ GW := gw3 (i := 102) (by decide +kernel) (by decide +kernel)
theorem ml_L_73 : Cond.methodLink RL 73 yX2_isCovered ∈ GW := gw3 (i := 103) (by decide +kernel) (by decide +kernel)
theorem im_X2_isCovered : Cond.instanceMethod yX2_isCovered ∈ GW := gw3 (i := 104) (by decide +kernel) (by decide +kernel)
theorem se_X2_isCovered : Cond.selects RX2 yX2_isCovered yX2_isCovered ∈ GW := gw3 (i := 105) (by decide +kernel) (by decide +kernel)
theorem co_X2_isCovered : Cond.code yX2_isCovered cX2_isCovered 4 (some .boolean) ∈ GW := gw3 (i := 106) (by decide +kernel) (by decide +kernel)
theorem ml_X2_165 : Cond.methodLink RX2 165 yX1_hasEvidence ∈ GW := gw3 (i := 107) (by decide +kernel) (by decide +kernel)
theorem im_X1_hasEvidence : Cond.instanceMethod yX1_hasEvidence ∈ GW := gw3 (i := 108) (by decide +kernel) (by decide +kernel)
theorem se_X1_hasEvidence : Cond.selects RX1 yX1_hasEvidence yX1_hasEvidence ∈ GW := gw3 (i := 109) (by decide +kernel) (by decide +kernel)
theorem co_X1_hasEvidence : Cond.code yX1_hasEvidence cX1_hasEvidence 1 (some .boolean) ∈ GW := gw3 (i := 110) (by decide +kernel) (by decide +kernel)
theorem ml_X2_169 : Cond.methodLink RX2 169 yX1_evidenceUntil ∈ GW := gw3 (i := 111) (by decide +kernel) (by decide +kernel)
theorem im_X1_evidenceUntil : Cond.instanceMethod yX1_evidenceUntil ∈ GW := gw3 (i := 112) (by decide +kernel) (by decide +kernel)
theorem se_X1_evidenceUntil : Cond.selects RX1 yX1_evidenceUntil yX1_evidenceUntil ∈ GW := gw3 (i := 113) (by decide +kernel) (by decide +kernel)
theorem co_X1_evidenceUntil : Cond.code yX1_evidenceUntil cX1_evidenceUntil 1 (some .int) ∈ GW := gw3 (i := 114) (by decide +kernel) (by decide +kernel)
theorem ml_L_172 : Cond.methodLink RL 172 yL_lasts ∈ GW := gw3 (i := 115) (by decide +kernel) (by decide +kernel)
theorem st_L_lasts : Cond.static yL_lasts ∈ GW := gw3 (i := 116) (by decide +kernel) (by decide +kernel)
theorem co_L_lasts : Cond.codeWith yL_lasts cL_lasts 4 (some .int) [(0, 9, 12, 13), (0, 9, 15, 59)] ∈ GW := gw3 (i := 117) (by decide +kernel) (by decide +kernel)
theorem ml_L_76 : Cond.methodLink RL 76 yX2_lasts ∈ GW := gw3 (i := 118) (by decide +kernel) (by decide +kernel)
theorem im_X2_lasts : Cond.instanceMethod yX2_lasts ∈ GW := gw3 (i := 119) (by decide +kernel) (by decide +kernel)
theorem se_X2_lasts : Cond.selects RX2 yX2_lasts yX2_lasts ∈ GW := gw3 (i := 120) (by decide +kernel) (by decide +kernel)
theorem co_X2_lasts : Cond.code yX2_lasts cX2_lasts 3 (some .int) ∈ GW := gw3 (i := 121) (by decide +kernel) (by decide +kernel)
theorem ml_L_175 : Cond.methodLink RL 175 yL_load ∈ GW := gw3 (i := 123) (by decide +kernel) (by decide +kernel)
theorem st_L_load : Cond.static yL_load ∈ GW := gw3 (i := 124) (by decide +kernel) (by decide +kernel)
theorem co_L_load : Cond.codeWith yL_load cL_load 4 (some .int) [(0, 9, 12, 13)] ∈ GW := gw3 (i := 125) (by decide +kernel) (by decide +kernel)
theorem ml_L_79 : Cond.methodLink RL 79 yX2_load ∈ GW := gw3 (i := 126) (by decide +kernel) (by decide +kernel)
theorem im_X2_load : Cond.instanceMethod yX2_load ∈ GW := gw3 (i := 127) (by decide +kernel) (by decide +kernel)
theorem se_X2_load : Cond.selects RX2 yX2_load yX2_load ∈ GW := gw3 (i := 128) (by decide +kernel) (by decide +kernel)
theorem co_X2_load : Cond.code yX2_load cX2_load 2 (some .int) ∈ GW := gw3 (i := 129) (by decide +kernel) (by decide +kernel)
theorem ml_X2_174 : Cond.methodLink RX2 174 yX2_effortsDueOn ∈ GW := gw3 (i := 130) (by decide +kernel) (by decide +kernel)
theorem im_X2_effortsDueOn : Cond.instanceMethod yX2_effortsDueOn ∈ GW := gw3 (i := 132) (by decide +kernel) (by decide +kernel)
theorem co_X2_effortsDueOn : Cond.code yX2_effortsDueOn cX2_effortsDueOn 5 (some .int) ∈ GW := gw3 (i := 133) (by decide +kernel) (by decide +kernel)
theorem ml_L_178 : Cond.methodLink RL 178 yL_heaviest ∈ GW := gw3 (i := 134) (by decide +kernel) (by decide +kernel)
theorem st_L_heaviest : Cond.static yL_heaviest ∈ GW := gw3 (i := 135) (by decide +kernel) (by decide +kernel)
theorem co_L_heaviest : Cond.codeWith yL_heaviest cL_heaviest 5 (some .int) [(0, 10, 13, 13), (0, 10, 17, 22)] ∈ GW := gw3 (i := 136) (by decide +kernel) (by decide +kernel)
theorem ml_L_82 : Cond.methodLink RL 82 yX2_heaviest ∈ GW := gw3 (i := 137) (by decide +kernel) (by decide +kernel)
theorem im_X2_heaviest : Cond.instanceMethod yX2_heaviest ∈ GW := gw3 (i := 138) (by decide +kernel) (by decide +kernel)
theorem se_X2_heaviest : Cond.selects RX2 yX2_heaviest yX2_heaviest ∈ GW := gw3 (i := 139) (by decide +kernel) (by decide +kernel)
theorem co_X2_heaviest : Cond.code yX2_heaviest cX2_heaviest 7 (some .int) ∈ GW := gw3 (i := 140) (by decide +kernel) (by decide +kernel)
theorem ml_L_181 : Cond.methodLink RL 181 yL_level ∈ GW := gw3 (i := 141) (by decide +kernel) (by decide +kernel)
theorem st_L_level : Cond.static yL_level ∈ GW := gw3 (i := 142) (by decide +kernel) (by decide +kernel)
theorem co_L_level : Cond.codeWith yL_level cL_level 6 (some .int) [(0, 12, 15, 13), (0, 12, 19, 22)] ∈ GW := gw3 (i := 143) (by decide +kernel) (by decide +kernel)
theorem ml_L_85 : Cond.methodLink RL 85 yX2_level ∈ GW := gw3 (i := 144) (by decide +kernel) (by decide +kernel)
theorem im_X2_level : Cond.instanceMethod yX2_level ∈ GW := gw3 (i := 145) (by decide +kernel) (by decide +kernel)
theorem se_X2_level : Cond.selects RX2 yX2_level yX2_level ∈ GW := gw3 (i := 146) (by decide +kernel) (by decide +kernel)
theorem co_X2_level : Cond.code yX2_level cX2_level 4 (some .int) ∈ GW := gw3 (i := 147) (by decide +kernel) (by decide +kernel)
theorem ml_X2_177 : Cond.methodLink RX2 177 yX2_layEfforts ∈ GW := gw3 (i := 148) (by decide +kernel) (by decide +kernel)
theorem im_X2_layEfforts : Cond.instanceMethod yX2_layEfforts ∈ GW := gw3 (i := 150) (by decide +kernel) (by decide +kernel)
theorem co_X2_layEfforts : Cond.code yX2_layEfforts cX2_layEfforts 8 (some .int) ∈ GW := gw3 (i := 151) (by decide +kernel) (by decide +kernel)
theorem ml_X2_203 : Cond.methodLink RX2 203 yJ7_fill_53178 ∈ GW := gw3 (i := 152) (by decide +kernel) (by decide +kernel)
theorem st_J7_fill_53178 : Cond.static yJ7_fill_53178 ∈ GW := gw3 (i := 153) (by decide +kernel) (by decide +kernel)
theorem co_J7_fill_53178 : Cond.code yJ7_fill_53178 cJ7_fill_53178 4 none ∈ GW := gw3 (i := 154) (by decide +kernel) (by decide +kernel)
theorem ml_X2_209 : Cond.methodLink RX2 209 yX2_layEffort ∈ GW := gw3 (i := 155) (by decide +kernel) (by decide +kernel)
theorem im_X2_layEffort : Cond.instanceMethod yX2_layEffort ∈ GW := gw3 (i := 157) (by decide +kernel) (by decide +kernel)
theorem co_X2_layEffort : Cond.code yX2_layEffort cX2_layEffort 6 (some .boolean) ∈ GW := gw3 (i := 158) (by decide +kernel) (by decide +kernel)
theorem ml_L_185 : Cond.methodLink RL 185 yL_levelled ∈ GW := gw3 (i := 159) (by decide +kernel) (by decide +kernel)
theorem st_L_levelled : Cond.static yL_levelled ∈ GW := gw3 (i := 160) (by decide +kernel) (by decide +kernel)
theorem co_L_levelled : Cond.codeWith yL_levelled cL_levelled 7 (some .int) [(0, 14, 17, 13), (0, 14, 21, 22)] ∈ GW := gw3 (i := 161) (by decide +kernel) (by decide +kernel)
theorem ml_L_89 : Cond.methodLink RL 89 yX2_levelled ∈ GW := gw3 (i := 162) (by decide +kernel) (by decide +kernel)
theorem im_X2_levelled : Cond.instanceMethod yX2_levelled ∈ GW := gw3 (i := 163) (by decide +kernel) (by decide +kernel)
theorem se_X2_levelled : Cond.selects RX2 yX2_levelled yX2_levelled ∈ GW := gw3 (i := 164) (by decide +kernel) (by decide +kernel)
theorem co_X2_levelled : Cond.code yX2_levelled cX2_levelled 5 (some .int) ∈ GW := gw3 (i := 165) (by decide +kernel) (by decide +kernel)
theorem cl_L_94 : Cond.classLink RL 94 RX3 ∈ GW := gw3 (i := 166) (by decide +kernel) (by decide +kernel)
theorem it_X3 : Cond.instantiable RX3 19 ∈ GW := gw3 (i := 167) (by decide +kernel) (by decide +kernel)
theorem ml_L_96 : Cond.methodLink RL 96 yX3_init ∈ GW := gw3 (i := 168) (by decide +kernel) (by decide +kernel)
theorem im_X3_init : Cond.instanceMethod yX3_init ∈ GW := gw3 (i := 169) (by decide +kernel) (by decide +kernel)
theorem co_X3_init : Cond.code yX3_init cX3_init 2 none ∈ GW := gw3 (i := 170) (by decide +kernel) (by decide +kernel)
theorem ml_X3_1 : Cond.methodLink RX3 1 objectInit ∈ GW := gw3 (i := 171) (by decide +kernel) (by decide +kernel)
theorem fl_X3_56 : Cond.fieldLink RX3 56 "ObligaryModel" "thrown" "I" ∈ GW := gw3 (i := 172) (by decide +kernel) (by decide +kernel)
theorem fl_X3_81 : Cond.fieldLink RX3 81 "ObligaryModel" "present" "I" ∈ GW := gw3 (i := 173) (by decide +kernel) (by decide +kernel)
theorem fl_X3_7 : Cond.fieldLink RX3 7 "ObligaryModel" "isHoliday" "[Z" ∈ GW := gw3 (i := 174) (by decide +kernel) (by decide +kernel)
theorem fl_X3_64 : Cond.fieldLink RX3 64 "ObligaryModel" "many" "I" ∈ GW := gw3 (i := 175) (by decide +kernel) (by decide +kernel)
theorem fl_X3_13 : Cond.fieldLink RX3 13 "ObligaryModel" "kinds" "[I" ∈ GW := gw3 (i := 176) (by decide +kernel) (by decide +kernel)
theorem fl_X3_17 : Cond.fieldLink RX3 17 "ObligaryModel" "numbers" "[I" ∈ GW := gw3 (i := 177) (by decide +kernel) (by decide +kernel)
theorem fl_X3_20 : Cond.fieldLink RX3 20 "ObligaryModel" "shifts" "[I" ∈ GW := gw3 (i := 178) (by decide +kernel) (by decide +kernel)
theorem fl_X3_23 : Cond.fieldLink RX3 23 "ObligaryModel" "firsts" "[I" ∈ GW := gw3 (i := 179) (by decide +kernel) (by decide +kernel)
theorem fl_X3_26 : Cond.fieldLink RX3 26 "ObligaryModel" "efforts" "[I" ∈ GW := gw3 (i := 180) (by decide +kernel) (by decide +kernel)
theorem fl_X3_29 : Cond.fieldLink RX3 29 "ObligaryModel" "validities" "[I" ∈ GW := gw3 (i := 181) (by decide +kernel) (by decide +kernel)
theorem fl_X3_32 : Cond.fieldLink RX3 32 "ObligaryModel" "done" "[I" ∈ GW := gw3 (i := 182) (by decide +kernel) (by decide +kernel)
theorem fl_X3_35 : Cond.fieldLink RX3 35 "ObligaryModel" "evidence" "[I" ∈ GW := gw3 (i := 183) (by decide +kernel) (by decide +kernel)
theorem fl_X3_38 : Cond.fieldLink RX3 38 "ObligaryModel" "requires" "[Z" ∈ GW := gw3 (i := 184) (by decide +kernel) (by decide +kernel)
theorem fl_X3_41 : Cond.fieldLink RX3 41 "ObligaryModel" "isDue" "[Z" ∈ GW := gw3 (i := 185) (by decide +kernel) (by decide +kernel)
theorem fl_X3_44 : Cond.fieldLink RX3 44 "ObligaryModel" "row" "[I" ∈ GW := gw3 (i := 186) (by decide +kernel) (by decide +kernel)
theorem fl_X3_47 : Cond.fieldLink RX3 47 "ObligaryModel" "rowMany" "[I" ∈ GW := gw3 (i := 187) (by decide +kernel) (by decide +kernel)
theorem fl_X3_50 : Cond.fieldLink RX3 50 "ObligaryModel" "trial" "[I" ∈ GW := gw3 (i := 188) (by decide +kernel) (by decide +kernel)
theorem fl_X3_53 : Cond.fieldLink RX3 53 "ObligaryModel" "laid" "[I" ∈ GW := gw3 (i := 189) (by decide +kernel) (by decide +kernel)
theorem fl_X3_123 : Cond.fieldLink RX3 123 "ObligaryModel" "unfit" "I" ∈ GW := gw3 (i := 190) (by decide +kernel) (by decide +kernel)
theorem ml_L_103 : Cond.methodLink RL 103 yX3_thrown ∈ GW := gw3 (i := 230) (by decide +kernel) (by decide +kernel)
theorem im_X3_thrown : Cond.instanceMethod yX3_thrown ∈ GW := gw3 (i := 231) (by decide +kernel) (by decide +kernel)
theorem se_X3_thrown : Cond.selects RX3 yX3_thrown yX3_thrown ∈ GW := gw3 (i := 232) (by decide +kernel) (by decide +kernel)
theorem co_X3_thrown : Cond.code yX3_thrown cX3_thrown 1 (some .int) ∈ GW := gw3 (i := 233) (by decide +kernel) (by decide +kernel)
theorem ml_L_102 : Cond.methodLink RL 102 yX3_holiday ∈ GW := gw3 (i := 234) (by decide +kernel) (by decide +kernel)
theorem im_X3_holiday : Cond.instanceMethod yX3_holiday ∈ GW := gw3 (i := 235) (by decide +kernel) (by decide +kernel)
theorem se_X3_holiday : Cond.selects RX3 yX3_holiday yX3_holiday ∈ GW := gw3 (i := 236) (by decide +kernel) (by decide +kernel)
theorem co_X3_holiday : Cond.code yX3_holiday cX3_holiday 2 (some .boolean) ∈ GW := gw3 (i := 237) (by decide +kernel) (by decide +kernel)
theorem ml_X3_67 : Cond.methodLink RX3 67 yX3_isDay ∈ GW := gw3 (i := 238) (by decide +kernel) (by decide +kernel)
theorem st_X3_isDay : Cond.static yX3_isDay ∈ GW := gw3 (i := 239) (by decide +kernel) (by decide +kernel)
theorem co_X3_isDay : Cond.code yX3_isDay cX3_isDay 1 (some .boolean) ∈ GW := gw4 (i := 0) (by decide +kernel) (by decide +kernel)
theorem ml_X3_60 : Cond.methodLink RX3 60 yX3_in ∈ GW := gw4 (i := 1) (by decide +kernel) (by decide +kernel)
theorem st_X3_in : Cond.static yX3_in ∈ GW := gw4 (i := 2) (by decide +kernel) (by decide +kernel)
theorem co_X3_in : Cond.code yX3_in cX3_in 3 (some .boolean) ∈ GW := gw4 (i := 3) (by decide +kernel) (by decide +kernel)
theorem ml_L_109 : Cond.methodLink RL 109 yX3_isWorking ∈ GW := gw4 (i := 4) (by decide +kernel) (by decide +kernel)
theorem im_X3_isWorking : Cond.instanceMethod yX3_isWorking ∈ GW := gw4 (i := 5) (by decide +kernel) (by decide +kernel)
theorem se_X3_isWorking : Cond.selects RX3 yX3_isWorking yX3_isWorking ∈ GW := gw4 (i := 6) (by decide +kernel) (by decide +kernel)
theorem co_X3_isWorking : Cond.code yX3_isWorking cX3_isWorking 2 (some .boolean) ∈ GW := gw4 (i := 7) (by decide +kernel) (by decide +kernel)
theorem ml_X3_71 : Cond.methodLink RX3 71 yX3_works ∈ GW := gw4 (i := 8) (by decide +kernel) (by decide +kernel)
theorem im_X3_works : Cond.instanceMethod yX3_works ∈ GW := gw4 (i := 10) (by decide +kernel) (by decide +kernel)
theorem co_X3_works : Cond.code yX3_works cX3_works 2 (some .boolean) ∈ GW := gw4 (i := 11) (by decide +kernel) (by decide +kernel)
theorem ml_L_113 : Cond.methodLink RL 113 yX3_workingDays ∈ GW := gw4 (i := 12) (by decide +kernel) (by decide +kernel)
theorem im_X3_workingDays : Cond.instanceMethod yX3_workingDays ∈ GW := gw4 (i := 13) (by decide +kernel) (by decide +kernel)
theorem se_X3_workingDays : Cond.selects RX3 yX3_workingDays yX3_workingDays ∈ GW := gw4 (i := 14) (by decide +kernel) (by decide +kernel)
theorem co_X3_workingDays : Cond.code yX3_workingDays cX3_workingDays 3 (some .int) ∈ GW := gw4 (i := 15) (by decide +kernel) (by decide +kernel)
theorem ml_X3_74 : Cond.methodLink RX3 74 yX3_barsSpan ∈ GW := gw4 (i := 16) (by decide +kernel) (by decide +kernel)
theorem st_X3_barsSpan : Cond.static yX3_barsSpan ∈ GW := gw4 (i := 17) (by decide +kernel) (by decide +kernel)
theorem co_X3_barsSpan : Cond.code yX3_barsSpan cX3_barsSpan 2 (some .int) ∈ GW := gw4 (i := 18) (by decide +kernel) (by decide +kernel)
theorem ml_X3_78 : Cond.methodLink RX3 78 yX3_workingFrom ∈ GW := gw4 (i := 19) (by decide +kernel) (by decide +kernel)
theorem im_X3_workingFrom : Cond.instanceMethod yX3_workingFrom ∈ GW := gw4 (i := 21) (by decide +kernel) (by decide +kernel)
theorem co_X3_workingFrom : Cond.code yX3_workingFrom cX3_workingFrom 5 (some .int) ∈ GW := gw4 (i := 22) (by decide +kernel) (by decide +kernel)
theorem ml_L_116 : Cond.methodLink RL 116 yX3_pass ∈ GW := gw4 (i := 23) (by decide +kernel) (by decide +kernel)
theorem im_X3_pass : Cond.instanceMethod yX3_pass ∈ GW := gw4 (i := 24) (by decide +kernel) (by decide +kernel)
theorem se_X3_pass : Cond.selects RX3 yX3_pass yX3_pass ∈ GW := gw4 (i := 25) (by decide +kernel) (by decide +kernel)
theorem co_X3_pass : Cond.code yX3_pass cX3_pass 2 (some .int) ∈ GW := gw4 (i := 26) (by decide +kernel) (by decide +kernel)
theorem ml_L_120 : Cond.methodLink RL 120 yX3_today ∈ GW := gw4 (i := 27) (by decide +kernel) (by decide +kernel)
theorem im_X3_today : Cond.instanceMethod yX3_today ∈ GW := gw4 (i := 28) (by decide +kernel) (by decide +kernel)
theorem se_X3_today : Cond.selects RX3 yX3_today yX3_today ∈ GW := gw4 (i := 29) (by decide +kernel) (by decide +kernel)
theorem co_X3_today : Cond.code yX3_today cX3_today 1 (some .int) ∈ GW := gw4 (i := 30) (by decide +kernel) (by decide +kernel)
theorem ml_L_124 : Cond.methodLink RL 124 yX3_addRule ∈ GW := gw4 (i := 31) (by decide +kernel) (by decide +kernel)
theorem im_X3_addRule : Cond.instanceMethod yX3_addRule ∈ GW := gw4 (i := 32) (by decide +kernel) (by decide +kernel)
theorem se_X3_addRule : Cond.selects RX3 yX3_addRule yX3_addRule ∈ GW := gw4 (i := 33) (by decide +kernel) (by decide +kernel)
theorem co_X3_addRule : Cond.code yX3_addRule cX3_addRule 10 (some .int) ∈ GW := gw4 (i := 34) (by decide +kernel) (by decide +kernel)
theorem ml_L_127 : Cond.methodLink RL 127 yX3_setShift ∈ GW := gw4 (i := 35) (by decide +kernel) (by decide +kernel)
theorem im_X3_setShift : Cond.instanceMethod yX3_setShift ∈ GW := gw4 (i := 36) (by decide +kernel) (by decide +kernel)
theorem se_X3_setShift : Cond.selects RX3 yX3_setShift yX3_setShift ∈ GW := gw4 (i := 37) (by decide +kernel) (by decide +kernel)
theorem co_X3_setShift : Cond.code yX3_setShift cX3_setShift 4 (some .int) ∈ GW := gw4 (i := 38) (by decide +kernel) (by decide +kernel)
theorem ml_X3_84 : Cond.methodLink RX3 84 yX3_isRule ∈ GW := gw4 (i := 39) (by decide +kernel) (by decide +kernel)
theorem im_X3_isRule : Cond.instanceMethod yX3_isRule ∈ GW := gw4 (i := 41) (by decide +kernel) (by decide +kernel)
theorem co_X3_isRule : Cond.code yX3_isRule cX3_isRule 2 (some .boolean) ∈ GW := gw4 (i := 42) (by decide +kernel) (by decide +kernel)
theorem ml_L_130 : Cond.methodLink RL 130 yX3_require ∈ GW := gw4 (i := 43) (by decide +kernel) (by decide +kernel)
theorem im_X3_require : Cond.instanceMethod yX3_require ∈ GW := gw4 (i := 44) (by decide +kernel) (by decide +kernel)
theorem se_X3_require : Cond.selects RX3 yX3_require yX3_require ∈ GW := gw4 (i := 45) (by decide +kernel) (by decide +kernel)
theorem co_X3_require : Cond.code yX3_require cX3_require 4 (some .boolean) ∈ GW := gw4 (i := 46) (by decide +kernel) (by decide +kernel)
theorem ml_X3_87 : Cond.methodLink RX3 87 yX3_reaches ∈ GW := gw4 (i := 47) (by decide +kernel) (by decide +kernel)
theorem im_X3_reaches : Cond.instanceMethod yX3_reaches ∈ GW := gw4 (i := 49) (by decide +kernel) (by decide +kernel)
theorem co_X3_reaches : Cond.code yX3_reaches cX3_reaches 7 (some .boolean) ∈ GW := gw4 (i := 50) (by decide +kernel) (by decide +kernel)
theorem ml_L_134 : Cond.methodLink RL 134 yX3_rules ∈ GW := gw4 (i := 51) (by decide +kernel) (by decide +kernel)
theorem im_X3_rules : Cond.instanceMethod yX3_rules ∈ GW := gw4 (i := 52) (by decide +kernel) (by decide +kernel)
theorem se_X3_rules : Cond.selects RX3 yX3_rules yX3_rules ∈ GW := gw4 (i := 53) (by decide +kernel) (by decide +kernel)
theorem co_X3_rules : Cond.code yX3_rules cX3_rules 1 (some .int) ∈ GW := gw4 (i := 54) (by decide +kernel) (by decide +kernel)
theorem ml_L_137 : Cond.methodLink RL 137 yX3_dueDay ∈ GW := gw4 (i := 55) (by decide +kernel) (by decide +kernel)
theorem im_X3_dueDay : Cond.instanceMethod yX3_dueDay ∈ GW := gw4 (i := 56) (by decide +kernel) (by decide +kernel)
theorem se_X3_dueDay : Cond.selects RX3 yX3_dueDay yX3_dueDay ∈ GW := gw4 (i := 57) (by decide +kernel) (by decide +kernel)
theorem co_X3_dueDay : Cond.code yX3_dueDay cX3_dueDay 3 (some .int) ∈ GW := gw4 (i := 58) (by decide +kernel) (by decide +kernel)
theorem ml_X3_97 : Cond.methodLink RX3 97 yX3_marks ∈ GW := gw4 (i := 59) (by decide +kernel) (by decide +kernel)
theorem im_X3_marks : Cond.instanceMethod yX3_marks ∈ GW := gw4 (i := 61) (by decide +kernel) (by decide +kernel)
theorem co_X3_marks : Cond.code yX3_marks cX3_marks 4 none ∈ GW := gw4 (i := 62) (by decide +kernel) (by decide +kernel)
theorem ml_X3_91 : Cond.methodLink RX3 91 yX3_isNominal ∈ GW := gw4 (i := 63) (by decide +kernel) (by decide +kernel)
theorem im_X3_isNominal : Cond.instanceMethod yX3_isNominal ∈ GW := gw4 (i := 65) (by decide +kernel) (by decide +kernel)
theorem co_X3_isNominal : Cond.code yX3_isNominal cX3_isNominal 5 (some .boolean) ∈ GW := gw4 (i := 66) (by decide +kernel) (by decide +kernel)
theorem ml_X3_94 : Cond.methodLink RX3 94 yX3_moved ∈ GW := gw4 (i := 67) (by decide +kernel) (by decide +kernel)
theorem im_X3_moved : Cond.instanceMethod yX3_moved ∈ GW := gw4 (i := 69) (by decide +kernel) (by decide +kernel)
theorem co_X3_moved : Cond.code yX3_moved cX3_moved 5 (some .int) ∈ GW := gw4 (i := 70) (by decide +kernel) (by decide +kernel)
theorem ml_X3_100 : Cond.methodLink RX3 100 yX3_dueAt ∈ GW := gw4 (i := 71) (by decide +kernel) (by decide +kernel)
theorem im_X3_dueAt : Cond.instanceMethod yX3_dueAt ∈ GW := gw4 (i := 73) (by decide +kernel) (by decide +kernel)
theorem co_X3_dueAt : Cond.code yX3_dueAt cX3_dueAt 3 (some .int) ∈ GW := gw4 (i := 74) (by decide +kernel) (by decide +kernel)
theorem ml_L_140 : Cond.methodLink RL 140 yX3_duties ∈ GW := gw4 (i := 75) (by decide +kernel) (by decide +kernel)
theorem im_X3_duties : Cond.instanceMethod yX3_duties ∈ GW := gw4 (i := 76) (by decide +kernel) (by decide +kernel)
theorem se_X3_duties : Cond.selects RX3 yX3_duties yX3_duties ∈ GW := gw4 (i := 77) (by decide +kernel) (by decide +kernel)
theorem co_X3_duties : Cond.code yX3_duties cX3_duties 2 (some .int) ∈ GW := gw4 (i := 78) (by decide +kernel) (by decide +kernel)
theorem ml_X3_103 : Cond.methodLink RX3 103 yX3_countBefore ∈ GW := gw4 (i := 79) (by decide +kernel) (by decide +kernel)
theorem im_X3_countBefore : Cond.instanceMethod yX3_countBefore ∈ GW := gw4 (i := 81) (by decide +kernel) (by decide +kernel)
theorem co_X3_countBefore : Cond.code yX3_countBefore cX3_countBefore 4 (some .int) ∈ GW := gw4 (i := 82) (by decide +kernel) (by decide +kernel)
theorem ml_L_143 : Cond.methodLink RL 143 yX3_nextDue ∈ GW := gw4 (i := 83) (by decide +kernel) (by decide +kernel)
theorem im_X3_nextDue : Cond.instanceMethod yX3_nextDue ∈ GW := gw4 (i := 84) (by decide +kernel) (by decide +kernel)
theorem se_X3_nextDue : Cond.selects RX3 yX3_nextDue yX3_nextDue ∈ GW := gw4 (i := 85) (by decide +kernel) (by decide +kernel)
theorem co_X3_nextDue : Cond.code yX3_nextDue cX3_nextDue 3 (some .int) ∈ GW := gw4 (i := 86) (by decide +kernel) (by decide +kernel)
theorem ml_X3_106 : Cond.methodLink RX3 106 yX3_firstFrom ∈ GW := gw4 (i := 87) (by decide +kernel) (by decide +kernel)
theorem im_X3_firstFrom : Cond.instanceMethod yX3_firstFrom ∈ GW := gw4 (i := 89) (by decide +kernel) (by decide +kernel)
theorem co_X3_firstFrom : Cond.code yX3_firstFrom cX3_firstFrom 3 (some .int) ∈ GW := gw4 (i := 90) (by decide +kernel) (by decide +kernel)
theorem ml_L_146 : Cond.methodLink RL 146 yX3_nextDueByWalking ∈ GW := gw4 (i := 91) (by decide +kernel) (by decide +kernel)
theorem im_X3_nextDueByWalking : Cond.instanceMethod yX3_nextDueByWalking ∈ GW := gw4 (i := 92) (by decide +kernel) (by decide +kernel)
theorem se_X3_nextDueByWalking : Cond.selects RX3 yX3_nextDueByWalking yX3_nextDueByWalking ∈ GW := gw4 (i := 93) (by decide +kernel) (by decide +kernel)
theorem co_X3_nextDueByWalking : Cond.code yX3_nextDueByWalking cX3_nextDueByWalking 3 (some .int) ∈ GW := gw4 (i := 94) (by decide +kernel) (by decide +kernel)
theorem ml_L_149 : Cond.methodLink RL 149 yX3_upcoming ∈ GW := gw4 (i := 95) (by decide +kernel) (by decide +kernel)
theorem im_X3_upcoming : Cond.instanceMethod yX3_upcoming ∈ GW := gw4 (i := 96) (by decide +kernel) (by decide +kernel)
theorem se_X3_upcoming : Cond.selects RX3 yX3_upcoming yX3_upcoming ∈ GW := gw4 (i := 97) (by decide +kernel) (by decide +kernel)
theorem co_X3_upcoming : Cond.code yX3_upcoming cX3_upcoming 6 (some .int) ∈ GW := gw4 (i := 98) (by decide +kernel) (by decide +kernel)
theorem ml_L_152 : Cond.methodLink RL 152 yX3_finish ∈ GW := gw4 (i := 99) (by decide +kernel) (by decide +kernel)
theorem im_X3_finish : Cond.instanceMethod yX3_finish ∈ GW := gw4 (i := 100) (by decide +kernel) (by decide +kernel)
theorem se_X3_finish : Cond.selects RX3 yX3_finish yX3_finish ∈ GW := gw4 (i := 101) (by decide +kernel) (by decide +kernel)
theorem co_X3_finish : Cond.code yX3_finish cX3_finish 3 (some .int) ∈ GW := gw4 (i := 102) (by decide +kernel) (by decide +kernel)
theorem ml_X3_109 : Cond.methodLink RX3 109 yX3_blocks ∈ GW := gw4 (i := 103) (by decide +kernel) (by decide +kernel)
theorem im_X3_blocks : Cond.instanceMethod yX3_blocks ∈ GW := gw4 (i := 105) (by decide +kernel) (by decide +kernel)
theorem co_X3_blocks : Cond.code yX3_blocks cX3_blocks 7 (some .int) ∈ GW := gw4 (i := 106) (by decide +kernel) (by decide +kernel)
theorem ml_L_155 : Cond.methodLink RL 155 yX3_open ∈ GW := gw4 (i := 107) (by decide +kernel) (by decide +kernel)
theorem im_X3_open : Cond.instanceMethod yX3_open ∈ GW := gw4 (i := 108) (by decide +kernel) (by decide +kernel)
theorem se_X3_open : Cond.selects RX3 yX3_open yX3_open ∈ GW := gw4 (i := 109) (by decide +kernel) (by decide +kernel)
theorem co_X3_open : Cond.code yX3_open cX3_open 2 (some .int) ∈ GW := gw4 (i := 110) (by decide +kernel) (by decide +kernel)
theorem ml_L_158 : Cond.methodLink RL 158 yX3_finished ∈ GW := gw4 (i := 111) (by decide +kernel) (by decide +kernel)
theorem im_X3_finished : Cond.instanceMethod yX3_finished ∈ GW := gw4 (i := 112) (by decide +kernel) (by decide +kernel)
theorem se_X3_finished : Cond.selects RX3 yX3_finished yX3_finished ∈ GW := gw4 (i := 113) (by decide +kernel) (by decide +kernel)
theorem co_X3_finished : Cond.code yX3_finished cX3_finished 2 (some .int) ∈ GW := gw4 (i := 114) (by decide +kernel) (by decide +kernel)
theorem ml_X3_113 : Cond.methodLink RX3 113 yX3_fails ∈ GW := gw4 (i := 115) (by decide +kernel) (by decide +kernel)
theorem im_X3_fails : Cond.instanceMethod yX3_fails ∈ GW := gw4 (i := 117) (by decide +kernel) (by decide +kernel)
theorem co_X3_fails : Cond.code yX3_fails cX3_fails 2 (some .int) ∈ GW := gw4 (i := 118) (by decide +kernel) (by decide +kernel)
theorem ml_L_161 : Cond.methodLink RL 161 yX3_blockedBy ∈ GW := gw4 (i := 119) (by decide +kernel) (by decide +kernel)
theorem im_X3_blockedBy : Cond.instanceMethod yX3_blockedBy ∈ GW := gw4 (i := 120) (by decide +kernel) (by decide +kernel)
theorem se_X3_blockedBy : Cond.selects RX3 yX3_blockedBy yX3_blockedBy ∈ GW := gw4 (i := 121) (by decide +kernel) (by decide +kernel)
theorem co_X3_blockedBy : Cond.code yX3_blockedBy cX3_blockedBy 2 (some .int) ∈ GW := gw4 (i := 122) (by decide +kernel) (by decide +kernel)
theorem ml_L_165 : Cond.methodLink RL 165 yX3_overdue ∈ GW := gw4 (i := 123) (by decide +kernel) (by decide +kernel)
theorem im_X3_overdue : Cond.instanceMethod yX3_overdue ∈ GW := gw4 (i := 124) (by decide +kernel) (by decide +kernel)
theorem se_X3_overdue : Cond.selects RX3 yX3_overdue yX3_overdue ∈ GW := gw4 (i := 125) (by decide +kernel) (by decide +kernel)
theorem co_X3_overdue : Cond.code yX3_overdue cX3_overdue 4 (some .int) ∈ GW := gw4 (i := 126) (by decide +kernel) (by decide +kernel)
theorem ml_L_168 : Cond.methodLink RL 168 yX3_order ∈ GW := gw4 (i := 127) (by decide +kernel) (by decide +kernel)
theorem im_X3_order : Cond.instanceMethod yX3_order ∈ GW := gw4 (i := 128) (by decide +kernel) (by decide +kernel)
theorem se_X3_order : Cond.selects RX3 yX3_order yX3_order ∈ GW := gw4 (i := 129) (by decide +kernel) (by decide +kernel)
theorem co_X3_order : Cond.code yX3_order cX3_order 5 (some .int) ∈ GW := gw4 (i := 130) (by decide +kernel) (by decide +kernel)
theorem ml_X3_117 : Cond.methodLink RX3 117 yX3_comesNext ∈ GW := gw4 (i := 131) (by decide +kernel) (by decide +kernel)
theorem im_X3_comesNext : Cond.instanceMethod yX3_comesNext ∈ GW := gw4 (i := 133) (by decide +kernel) (by decide +kernel)
theorem co_X3_comesNext : Cond.code yX3_comesNext cX3_comesNext 7 (some .int) ∈ GW := gw4 (i := 134) (by decide +kernel) (by decide +kernel)
theorem ml_L_171 : Cond.methodLink RL 171 yX3_isCovered ∈ GW := gw4 (i := 135) (by decide +kernel) (by decide +kernel)
theorem im_X3_isCovered : Cond.instanceMethod yX3_isCovered ∈ GW := gw4 (i := 136) (by decide +kernel) (by decide +kernel)
theorem se_X3_isCovered : Cond.selects RX3 yX3_isCovered yX3_isCovered ∈ GW := gw4 (i := 137) (by decide +kernel) (by decide +kernel)
theorem co_X3_isCovered : Cond.code yX3_isCovered cX3_isCovered 3 (some .boolean) ∈ GW := gw4 (i := 138) (by decide +kernel) (by decide +kernel)
theorem ml_L_174 : Cond.methodLink RL 174 yX3_lasts ∈ GW := gw4 (i := 139) (by decide +kernel) (by decide +kernel)
theorem im_X3_lasts : Cond.instanceMethod yX3_lasts ∈ GW := gw4 (i := 140) (by decide +kernel) (by decide +kernel)
theorem se_X3_lasts : Cond.selects RX3 yX3_lasts yX3_lasts ∈ GW := gw4 (i := 141) (by decide +kernel) (by decide +kernel)
theorem co_X3_lasts : Cond.code yX3_lasts cX3_lasts 2 (some .int) ∈ GW := gw4 (i := 142) (by decide +kernel) (by decide +kernel)
theorem ml_L_177 : Cond.methodLink RL 177 yX3_load ∈ GW := gw4 (i := 143) (by decide +kernel) (by decide +kernel)
theorem im_X3_load : Cond.instanceMethod yX3_load ∈ GW := gw4 (i := 144) (by decide +kernel) (by decide +kernel)
theorem se_X3_load : Cond.selects RX3 yX3_load yX3_load ∈ GW := gw4 (i := 145) (by decide +kernel) (by decide +kernel)
theorem co_X3_load : Cond.code yX3_load cX3_load 2 (some .int) ∈ GW := gw4 (i := 146) (by decide +kernel) (by decide +kernel)
theorem ml_X3_120 : Cond.methodLink RX3 120 yX3_loadOf ∈ GW := gw4 (i := 147) (by decide +kernel) (by decide +kernel)
theorem im_X3_loadOf : Cond.instanceMethod yX3_loadOf ∈ GW := gw4 (i := 149) (by decide +kernel) (by decide +kernel)
theorem co_X3_loadOf : Cond.code yX3_loadOf cX3_loadOf 4 (some .int) ∈ GW := gw4 (i := 150) (by decide +kernel) (by decide +kernel)
theorem ml_L_180 : Cond.methodLink RL 180 yX3_heaviest ∈ GW := gw4 (i := 151) (by decide +kernel) (by decide +kernel)
theorem im_X3_heaviest : Cond.instanceMethod yX3_heaviest ∈ GW := gw4 (i := 152) (by decide +kernel) (by decide +kernel)
theorem se_X3_heaviest : Cond.selects RX3 yX3_heaviest yX3_heaviest ∈ GW := gw4 (i := 153) (by decide +kernel) (by decide +kernel)
theorem co_X3_heaviest : Cond.code yX3_heaviest cX3_heaviest 5 (some .int) ∈ GW := gw4 (i := 154) (by decide +kernel) (by decide +kernel)
theorem ml_L_184 : Cond.methodLink RL 184 yX3_level ∈ GW := gw4 (i := 155) (by decide +kernel) (by decide +kernel)
theorem im_X3_level : Cond.instanceMethod yX3_level ∈ GW := gw4 (i := 156) (by decide +kernel) (by decide +kernel)
theorem se_X3_level : Cond.selects RX3 yX3_level yX3_level ∈ GW := gw4 (i := 157) (by decide +kernel) (by decide +kernel)
theorem co_X3_level : Cond.code yX3_level cX3_level 4 (some .int) ∈ GW := gw4 (i := 158) (by decide +kernel) (by decide +kernel)
theorem ml_X3_130 : Cond.methodLink RX3 130 yX3_barsLevel ∈ GW := gw4 (i := 159) (by decide +kernel) (by decide +kernel)
theorem im_X3_barsLevel : Cond.instanceMethod yX3_barsLevel ∈ GW := gw4 (i := 161) (by decide +kernel) (by decide +kernel)
theorem co_X3_barsLevel : Cond.code yX3_barsLevel cX3_barsLevel 5 (some .int) ∈ GW := gw4 (i := 162) (by decide +kernel) (by decide +kernel)
theorem ml_X3_134 : Cond.methodLink RX3 134 yX3_levels ∈ GW := gw4 (i := 163) (by decide +kernel) (by decide +kernel)
theorem im_X3_levels : Cond.instanceMethod yX3_levels ∈ GW := gw4 (i := 165) (by decide +kernel) (by decide +kernel)
theorem co_X3_levels : Cond.code yX3_levels cX3_levels 6 none ∈ GW := gw4 (i := 166) (by decide +kernel) (by decide +kernel)
theorem ml_X3_126 : Cond.methodLink RX3 126 yX3_lays ∈ GW := gw4 (i := 167) (by decide +kernel) (by decide +kernel)
theorem im_X3_lays : Cond.instanceMethod yX3_lays ∈ GW := gw4 (i := 169) (by decide +kernel) (by decide +kernel)
theorem co_X3_lays : Cond.code yX3_lays cX3_lays 6 none ∈ GW := gw4 (i := 170) (by decide +kernel) (by decide +kernel)
theorem ml_L_188 : Cond.methodLink RL 188 yX3_levelled ∈ GW := gw4 (i := 171) (by decide +kernel) (by decide +kernel)
theorem im_X3_levelled : Cond.instanceMethod yX3_levelled ∈ GW := gw4 (i := 172) (by decide +kernel) (by decide +kernel)
theorem se_X3_levelled : Cond.selects RX3 yX3_levelled yX3_levelled ∈ GW := gw4 (i := 173) (by decide +kernel) (by decide +kernel)
theorem co_X3_levelled : Cond.code yX3_levelled cX3_levelled 5 (some .int) ∈ GW := gw4 (i := 174) (by decide +kernel) (by decide +kernel)
theorem ac_long : Cond.arrayClass .long ∈ GW := gw4 (i := 175) (by decide +kernel) (by decide +kernel)
theorem se_X0_numberMonthOf : Cond.selects RX0 yX0_numberMonthOf yX0_numberMonthOf ∈ GW := gw0 (i := 0) (by decide +kernel) (by decide +kernel)
theorem se_X1_isNominal : Cond.selects RX1 yX1_isNominal yX1_isNominal ∈ GW := gw0 (i := 2) (by decide +kernel) (by decide +kernel)
theorem se_Jx4a65c_add_72be8 : Cond.selects RJx4a65c yJx4a65c_add_72be8 yJx4a65c_add_72be8 ∈ GW := gw0 (i := 3) (by decide +kernel) (by decide +kernel)
theorem se_Jx4a65c_grow_d5877 : Cond.selects RJx4a65c yJx4a65c_grow_d5877 yJx4a65c_grow_d5877 ∈ GW := gw0 (i := 4) (by decide +kernel) (by decide +kernel)
theorem se_Jx4a65c_grow_92f84 : Cond.selects RJx4a65c yJx4a65c_grow_92f84 yJx4a65c_grow_92f84 ∈ GW := gw0 (i := 5) (by decide +kernel) (by decide +kernel)
theorem se_X2_ruleAt : Cond.selects RX2 yX2_ruleAt yX2_ruleAt ∈ GW := gw0 (i := 6) (by decide +kernel) (by decide +kernel)
theorem se_X2_spreadNeeds : Cond.selects RX2 yX2_spreadNeeds yX2_spreadNeeds ∈ GW := gw0 (i := 7) (by decide +kernel) (by decide +kernel)
theorem se_X1_isMovedTo : Cond.selects RX1 yX1_isMovedTo yX1_isMovedTo ∈ GW := gw0 (i := 8) (by decide +kernel) (by decide +kernel)
theorem se_X2_foreseeOpenDuties : Cond.selects RX2 yX2_foreseeOpenDuties yX2_foreseeOpenDuties ∈ GW := gw0 (i := 9) (by decide +kernel) (by decide +kernel)
theorem se_X2_leastBlocker : Cond.selects RX2 yX2_leastBlocker yX2_leastBlocker ∈ GW := gw0 (i := 10) (by decide +kernel) (by decide +kernel)
theorem se_X2_nextInOrder : Cond.selects RX2 yX2_nextInOrder yX2_nextInOrder ∈ GW := gw0 (i := 11) (by decide +kernel) (by decide +kernel)
theorem se_X2_effortsDueOn : Cond.selects RX2 yX2_effortsDueOn yX2_effortsDueOn ∈ GW := gw0 (i := 12) (by decide +kernel) (by decide +kernel)
theorem se_X2_layEfforts : Cond.selects RX2 yX2_layEfforts yX2_layEfforts ∈ GW := gw0 (i := 13) (by decide +kernel) (by decide +kernel)
theorem se_X2_layEffort : Cond.selects RX2 yX2_layEffort yX2_layEffort ∈ GW := gw0 (i := 14) (by decide +kernel) (by decide +kernel)
theorem se_X3_works : Cond.selects RX3 yX3_works yX3_works ∈ GW := gw0 (i := 15) (by decide +kernel) (by decide +kernel)
theorem se_X3_workingFrom : Cond.selects RX3 yX3_workingFrom yX3_workingFrom ∈ GW := gw0 (i := 16) (by decide +kernel) (by decide +kernel)
theorem se_X3_isRule : Cond.selects RX3 yX3_isRule yX3_isRule ∈ GW := gw0 (i := 17) (by decide +kernel) (by decide +kernel)
theorem se_X3_reaches : Cond.selects RX3 yX3_reaches yX3_reaches ∈ GW := gw0 (i := 18) (by decide +kernel) (by decide +kernel)
theorem se_X3_marks : Cond.selects RX3 yX3_marks yX3_marks ∈ GW := gw0 (i := 19) (by decide +kernel) (by decide +kernel)
theorem se_X3_isNominal : Cond.selects RX3 yX3_isNominal yX3_isNominal ∈ GW := gw0 (i := 20) (by decide +kernel) (by decide +kernel)
theorem se_X3_moved : Cond.selects RX3 yX3_moved yX3_moved ∈ GW := gw0 (i := 21) (by decide +kernel) (by decide +kernel)
theorem se_X3_dueAt : Cond.selects RX3 yX3_dueAt yX3_dueAt ∈ GW := gw0 (i := 22) (by decide +kernel) (by decide +kernel)
theorem se_X3_countBefore : Cond.selects RX3 yX3_countBefore yX3_countBefore ∈ GW := gw0 (i := 23) (by decide +kernel) (by decide +kernel)
theorem se_X3_firstFrom : Cond.selects RX3 yX3_firstFrom yX3_firstFrom ∈ GW := gw0 (i := 24) (by decide +kernel) (by decide +kernel)
theorem se_X3_blocks : Cond.selects RX3 yX3_blocks yX3_blocks ∈ GW := gw0 (i := 25) (by decide +kernel) (by decide +kernel)
theorem se_X3_fails : Cond.selects RX3 yX3_fails yX3_fails ∈ GW := gw0 (i := 26) (by decide +kernel) (by decide +kernel)
theorem se_X3_comesNext : Cond.selects RX3 yX3_comesNext yX3_comesNext ∈ GW := gw0 (i := 27) (by decide +kernel) (by decide +kernel)
theorem se_X3_loadOf : Cond.selects RX3 yX3_loadOf yX3_loadOf ∈ GW := gw0 (i := 28) (by decide +kernel) (by decide +kernel)
theorem se_X3_barsLevel : Cond.selects RX3 yX3_barsLevel yX3_barsLevel ∈ GW := gw0 (i := 29) (by decide +kernel) (by decide +kernel)
theorem se_X3_levels : Cond.selects RX3 yX3_levels yX3_levels ∈ GW := gw0 (i := 30) (by decide +kernel) (by decide +kernel)
theorem se_X3_lays : Cond.selects RX3 yX3_lays yX3_lays ∈ GW := gw0 (i := 31) (by decide +kernel) (by decide +kernel)
theorem inX0 : ∀ w ∈ wsX00, w ∈ GW := gw_ps [81, 83, 85] (by decide +kernel) (by decide +kernel)
theorem inX1 : ∀ w ∈ wsX10, w ∈ GW := gw_ps [375, 377, 379, 381, 383, 385, 387, 389, 391, 393, 395, 397] (by decide +kernel) (by decide +kernel)
theorem inX2 : ∀ w ∈ wsX20, w ∈ GW := gw_ps [120, 122, 124, 126] (by decide +kernel) (by decide +kernel)
theorem inX3 : ∀ w ∈ wsX30, w ∈ GW := gw_ps [703, 705, 707, 709, 711, 713, 715, 717, 719, 721, 723, 725, 727, 729, 731, 733, 735, 737, 739] (by decide +kernel) (by decide +kernel)
theorem inJx4a65c : ∀ w ∈ wsJx4a65c0, w ∈ GW := gw_ps [113, 109, 111] (by decide +kernel) (by decide +kernel)
end
section
theorem dX0_init_0 : decode cX0_init 0 = .ok (.aload_n 0, 1) := by decide +kernel
theorem dX0_init_1 : decode cX0_init 1 = .ok (.invokespecial 3, 3) := by decide +kernel
theorem dX0_init_4 : decode cX0_init 4 = .ok (.aload_n 0, 1) := by decide +kernel
theorem dX0_init_5 : decode cX0_init 5 = .ok (.sipush 720, 3) := by decide +kernel
theorem dX0_init_8 : decode cX0_init 8 = .ok (.newarray .boolean, 2) := by decide +kernel
theorem dX0_init_10 : decode cX0_init 10 = .ok (.putfield 9, 3) := by decide +kernel
theorem dX0_init_13 : decode cX0_init 13 = .ok (.aload_n 0, 1) := by decide +kernel
theorem dX0_init_14 : decode cX0_init 14 = .ok (.sipush 720, 3) := by decide +kernel
theorem dX0_init_17 : decode cX0_init 17 = .ok (.newarray .int, 2) := by decide +kernel
theorem dX0_init_19 : decode cX0_init 19 = .ok (.putfield 15, 3) := by decide +kernel
theorem dX0_init_22 : decode cX0_init 22 = .ok (.aload_n 0, 1) := by decide +kernel
theorem dX0_init_23 : decode cX0_init 23 = .ok (.sipush 720, 3) := by decide +kernel
theorem dX0_init_26 : decode cX0_init 26 = .ok (.newarray .int, 2) := by decide +kernel
theorem dX0_init_28 : decode cX0_init 28 = .ok (.putfield 19, 3) := by decide +kernel
theorem dX0_init_31 : decode cX0_init 31 = .ok (.iconst 0, 1) := by decide +kernel
theorem dX0_init_32 : decode cX0_init 32 = .ok (.istore_n 1, 1) := by decide +kernel
theorem dX0_init_33 : decode cX0_init 33 = .ok (.iload_n 1, 1) := by decide +kernel
theorem dX0_init_34 : decode cX0_init 34 = .ok (.sipush 720, 3) := by decide +kernel
theorem dX0_init_37 : decode cX0_init 37 = .ok (.if_icmp .ge 14, 3) := by decide +kernel
theorem dX0_init_40 : decode cX0_init 40 = .ok (.aload_n 0, 1) := by decide +kernel
theorem dX0_init_41 : decode cX0_init 41 = .ok (.iload_n 1, 1) := by decide +kernel
theorem dX0_init_42 : decode cX0_init 42 = .ok (.invokevirtual 22, 3) := by decide +kernel
theorem dX0_init_45 : decode cX0_init 45 = .ok (.iinc 1 30, 3) := by decide +kernel
theorem dX0_init_48 : decode cX0_init 48 = .ok (.goto (-15), 3) := by decide +kernel
theorem dX0_init_51 : decode cX0_init 51 = .ok (.return_, 1) := by decide +kernel
theorem dX0_toggleHoliday_0 : decode cX0_toggleHoliday 0 = .ok (.iload_n 1, 1) := by decide +kernel
theorem dX0_toggleHoliday_1 : decode cX0_toggleHoliday 1 = .ok (.invokestatic 26, 3) := by decide +kernel
theorem dX0_toggleHoliday_4 : decode cX0_toggleHoliday 4 = .ok (.ifCond .ne 5, 3) := by decide +kernel
theorem dX0_toggleHoliday_7 : decode cX0_toggleHoliday 7 = .ok (.iconst 0, 1) := by decide +kernel
theorem dX0_toggleHoliday_8 : decode cX0_toggleHoliday 8 = .ok (.ireturn, 1) := by decide +kernel
theorem dX0_toggleHoliday_9 : decode cX0_toggleHoliday 9 = .ok (.aload_n 0, 1) := by decide +kernel
theorem dX0_toggleHoliday_10 : decode cX0_toggleHoliday 10 = .ok (.getfield 9, 3) := by decide +kernel
theorem dX0_toggleHoliday_13 : decode cX0_toggleHoliday 13 = .ok (.iload_n 1, 1) := by decide +kernel
theorem dX0_toggleHoliday_14 : decode cX0_toggleHoliday 14 = .ok (.aload_n 0, 1) := by decide +kernel
theorem dX0_toggleHoliday_15 : decode cX0_toggleHoliday 15 = .ok (.getfield 9, 3) := by decide +kernel
theorem dX0_toggleHoliday_18 : decode cX0_toggleHoliday 18 = .ok (.iload_n 1, 1) := by decide +kernel
theorem dX0_toggleHoliday_19 : decode cX0_toggleHoliday 19 = .ok (.baload, 1) := by decide +kernel
theorem dX0_toggleHoliday_20 : decode cX0_toggleHoliday 20 = .ok (.ifCond .ne 7, 3) := by decide +kernel
theorem dX0_toggleHoliday_23 : decode cX0_toggleHoliday 23 = .ok (.iconst 1, 1) := by decide +kernel
theorem dX0_toggleHoliday_24 : decode cX0_toggleHoliday 24 = .ok (.goto 4, 3) := by decide +kernel
theorem dX0_toggleHoliday_27 : decode cX0_toggleHoliday 27 = .ok (.iconst 0, 1) := by decide +kernel
theorem dX0_toggleHoliday_28 : decode cX0_toggleHoliday 28 = .ok (.bastore, 1) := by decide +kernel
theorem dX0_toggleHoliday_29 : decode cX0_toggleHoliday 29 = .ok (.aload_n 0, 1) := by decide +kernel
theorem dX0_toggleHoliday_30 : decode cX0_toggleHoliday 30 = .ok (.iload_n 1, 1) := by decide +kernel
theorem dX0_toggleHoliday_31 : decode cX0_toggleHoliday 31 = .ok (.invokevirtual 22, 3) := by decide +kernel
theorem dX0_toggleHoliday_34 : decode cX0_toggleHoliday 34 = .ok (.aload_n 0, 1) := by decide +kernel
theorem dX0_toggleHoliday_35 : decode cX0_toggleHoliday 35 = .ok (.getfield 9, 3) := by decide +kernel
theorem dX0_toggleHoliday_38 : decode cX0_toggleHoliday 38 = .ok (.iload_n 1, 1) := by decide +kernel
theorem dX0_toggleHoliday_39 : decode cX0_toggleHoliday 39 = .ok (.baload, 1) := by decide +kernel
theorem dX0_toggleHoliday_40 : decode cX0_toggleHoliday 40 = .ok (.ireturn, 1) := by decide +kernel
theorem dX0_works_0 : decode cX0_works 0 = .ok (.iload_n 1, 1) := by decide +kernel
theorem dX0_works_1 : decode cX0_works 1 = .ok (.invokestatic 26, 3) := by decide +kernel
theorem dX0_works_4 : decode cX0_works 4 = .ok (.ifCond .eq 24, 3) := by decide +kernel
theorem dX0_works_7 : decode cX0_works 7 = .ok (.iload_n 1, 1) := by decide +kernel
theorem dX0_works_8 : decode cX0_works 8 = .ok (.bipush 7, 2) := by decide +kernel
theorem dX0_works_10 : decode cX0_works 10 = .ok (.irem, 1) := by decide +kernel
theorem dX0_works_11 : decode cX0_works 11 = .ok (.iconst 5, 1) := by decide +kernel
theorem dX0_works_12 : decode cX0_works 12 = .ok (.if_icmp .ge 16, 3) := by decide +kernel
theorem dX0_works_15 : decode cX0_works 15 = .ok (.aload_n 0, 1) := by decide +kernel
theorem dX0_works_16 : decode cX0_works 16 = .ok (.getfield 9, 3) := by decide +kernel
theorem dX0_works_19 : decode cX0_works 19 = .ok (.iload_n 1, 1) := by decide +kernel
theorem dX0_works_20 : decode cX0_works 20 = .ok (.baload, 1) := by decide +kernel
theorem dX0_works_21 : decode cX0_works 21 = .ok (.ifCond .ne 7, 3) := by decide +kernel
theorem dX0_works_24 : decode cX0_works 24 = .ok (.iconst 1, 1) := by decide +kernel
theorem dX0_works_25 : decode cX0_works 25 = .ok (.goto 4, 3) := by decide +kernel
theorem dX0_works_28 : decode cX0_works 28 = .ok (.iconst 0, 1) := by decide +kernel
theorem dX0_works_29 : decode cX0_works 29 = .ok (.ireturn, 1) := by decide +kernel
theorem dX0_numberFromStart_0 : decode cX0_numberFromStart 0 = .ok (.iload_n 1, 1) := by decide +kernel
theorem dX0_numberFromStart_1 : decode cX0_numberFromStart 1 = .ok (.invokestatic 26, 3) := by decide +kernel
theorem dX0_numberFromStart_4 : decode cX0_numberFromStart 4 = .ok (.ifCond .eq 12, 3) := by decide +kernel
theorem dX0_numberFromStart_7 : decode cX0_numberFromStart 7 = .ok (.aload_n 0, 1) := by decide +kernel
theorem dX0_numberFromStart_8 : decode cX0_numberFromStart 8 = .ok (.getfield 15, 3) := by decide +kernel
theorem dX0_numberFromStart_11 : decode cX0_numberFromStart 11 = .ok (.iload_n 1, 1) := by decide +kernel
theorem dX0_numberFromStart_12 : decode cX0_numberFromStart 12 = .ok (.iaload, 1) := by decide +kernel
theorem dX0_numberFromStart_13 : decode cX0_numberFromStart 13 = .ok (.goto 4, 3) := by decide +kernel
theorem dX0_numberFromStart_16 : decode cX0_numberFromStart 16 = .ok (.iconst 0, 1) := by decide +kernel
theorem dX0_numberFromStart_17 : decode cX0_numberFromStart 17 = .ok (.ireturn, 1) := by decide +kernel
theorem dX0_numberFromEnd_0 : decode cX0_numberFromEnd 0 = .ok (.iload_n 1, 1) := by decide +kernel
theorem dX0_numberFromEnd_1 : decode cX0_numberFromEnd 1 = .ok (.invokestatic 26, 3) := by decide +kernel
theorem dX0_numberFromEnd_4 : decode cX0_numberFromEnd 4 = .ok (.ifCond .eq 12, 3) := by decide +kernel
theorem dX0_numberFromEnd_7 : decode cX0_numberFromEnd 7 = .ok (.aload_n 0, 1) := by decide +kernel
theorem dX0_numberFromEnd_8 : decode cX0_numberFromEnd 8 = .ok (.getfield 19, 3) := by decide +kernel
theorem dX0_numberFromEnd_11 : decode cX0_numberFromEnd 11 = .ok (.iload_n 1, 1) := by decide +kernel
theorem dX0_numberFromEnd_12 : decode cX0_numberFromEnd 12 = .ok (.iaload, 1) := by decide +kernel
theorem dX0_numberFromEnd_13 : decode cX0_numberFromEnd 13 = .ok (.goto 4, 3) := by decide +kernel
theorem dX0_numberFromEnd_16 : decode cX0_numberFromEnd 16 = .ok (.iconst 0, 1) := by decide +kernel
theorem dX0_numberFromEnd_17 : decode cX0_numberFromEnd 17 = .ok (.ireturn, 1) := by decide +kernel
theorem dX0_numberMonthOf_0 : decode cX0_numberMonthOf 0 = .ok (.iload_n 1, 1) := by decide +kernel
theorem dX0_numberMonthOf_1 : decode cX0_numberMonthOf 1 = .ok (.iload_n 1, 1) := by decide +kernel
theorem dX0_numberMonthOf_2 : decode cX0_numberMonthOf 2 = .ok (.bipush 30, 2) := by decide +kernel
theorem dX0_numberMonthOf_4 : decode cX0_numberMonthOf 4 = .ok (.irem, 1) := by decide +kernel
theorem dX0_numberMonthOf_5 : decode cX0_numberMonthOf 5 = .ok (.isub, 1) := by decide +kernel
theorem dX0_numberMonthOf_6 : decode cX0_numberMonthOf 6 = .ok (.istore_n 2, 1) := by decide +kernel
theorem dX0_numberMonthOf_7 : decode cX0_numberMonthOf 7 = .ok (.iload_n 2, 1) := by decide +kernel
theorem dX0_numberMonthOf_8 : decode cX0_numberMonthOf 8 = .ok (.bipush 30, 2) := by decide +kernel
theorem dX0_numberMonthOf_10 : decode cX0_numberMonthOf 10 = .ok (.iadd, 1) := by decide +kernel
theorem dX0_numberMonthOf_11 : decode cX0_numberMonthOf 11 = .ok (.iconst 1, 1) := by decide +kernel
theorem dX0_numberMonthOf_12 : decode cX0_numberMonthOf 12 = .ok (.isub, 1) := by decide +kernel
theorem dX0_numberMonthOf_13 : decode cX0_numberMonthOf 13 = .ok (.istore_n 3, 1) := by decide +kernel
theorem dX0_numberMonthOf_14 : decode cX0_numberMonthOf 14 = .ok (.iconst 0, 1) := by decide +kernel
theorem dX0_numberMonthOf_15 : decode cX0_numberMonthOf 15 = .ok (.istore 4, 2) := by decide +kernel
theorem dX0_numberMonthOf_17 : decode cX0_numberMonthOf 17 = .ok (.iload_n 2, 1) := by decide +kernel
theorem dX0_numberMonthOf_18 : decode cX0_numberMonthOf 18 = .ok (.istore 5, 2) := by decide +kernel
theorem dX0_numberMonthOf_20 : decode cX0_numberMonthOf 20 = .ok (.iload 5, 2) := by decide +kernel
theorem dX0_numberMonthOf_22 : decode cX0_numberMonthOf 22 = .ok (.iload_n 3, 1) := by decide +kernel
theorem dX0_numberMonthOf_23 : decode cX0_numberMonthOf 23 = .ok (.if_icmp .gt 51, 3) := by decide +kernel
theorem dX0_numberMonthOf_26 : decode cX0_numberMonthOf 26 = .ok (.iload 5, 2) := by decide +kernel
theorem dX0_numberMonthOf_28 : decode cX0_numberMonthOf 28 = .ok (.invokestatic 26, 3) := by decide +kernel
theorem dX0_numberMonthOf_31 : decode cX0_numberMonthOf 31 = .ok (.ifCond .eq 43, 3) := by decide +kernel
theorem dX0_numberMonthOf_34 : decode cX0_numberMonthOf 34 = .ok (.aload_n 0, 1) := by decide +kernel
theorem dX0_numberMonthOf_35 : decode cX0_numberMonthOf 35 = .ok (.iload 5, 2) := by decide +kernel
theorem dX0_numberMonthOf_37 : decode cX0_numberMonthOf 37 = .ok (.invokevirtual 30, 3) := by decide +kernel
theorem dX0_numberMonthOf_40 : decode cX0_numberMonthOf 40 = .ok (.ifCond .eq 6, 3) := by decide +kernel
theorem dX0_numberMonthOf_43 : decode cX0_numberMonthOf 43 = .ok (.iinc 4 1, 3) := by decide +kernel
theorem dX0_numberMonthOf_46 : decode cX0_numberMonthOf 46 = .ok (.aload_n 0, 1) := by decide +kernel
theorem dX0_numberMonthOf_47 : decode cX0_numberMonthOf 47 = .ok (.getfield 15, 3) := by decide +kernel
theorem dX0_numberMonthOf_50 : decode cX0_numberMonthOf 50 = .ok (.iload 5, 2) := by decide +kernel
theorem dX0_numberMonthOf_52 : decode cX0_numberMonthOf 52 = .ok (.aload_n 0, 1) := by decide +kernel
theorem dX0_numberMonthOf_53 : decode cX0_numberMonthOf 53 = .ok (.iload 5, 2) := by decide +kernel
theorem dX0_numberMonthOf_55 : decode cX0_numberMonthOf 55 = .ok (.invokevirtual 30, 3) := by decide +kernel
theorem dX0_numberMonthOf_58 : decode cX0_numberMonthOf 58 = .ok (.ifCond .eq 8, 3) := by decide +kernel
theorem dX0_numberMonthOf_61 : decode cX0_numberMonthOf 61 = .ok (.iload 4, 2) := by decide +kernel
theorem dX0_numberMonthOf_63 : decode cX0_numberMonthOf 63 = .ok (.goto 4, 3) := by decide +kernel
theorem dX0_numberMonthOf_66 : decode cX0_numberMonthOf 66 = .ok (.iconst 0, 1) := by decide +kernel
theorem dX0_numberMonthOf_67 : decode cX0_numberMonthOf 67 = .ok (.iastore, 1) := by decide +kernel
theorem dX0_numberMonthOf_68 : decode cX0_numberMonthOf 68 = .ok (.iinc 5 1, 3) := by decide +kernel
theorem dX0_numberMonthOf_71 : decode cX0_numberMonthOf 71 = .ok (.goto (-51), 3) := by decide +kernel
theorem dX0_numberMonthOf_74 : decode cX0_numberMonthOf 74 = .ok (.iload_n 2, 1) := by decide +kernel
theorem dX0_numberMonthOf_75 : decode cX0_numberMonthOf 75 = .ok (.istore 5, 2) := by decide +kernel
theorem dX0_numberMonthOf_77 : decode cX0_numberMonthOf 77 = .ok (.iload 5, 2) := by decide +kernel
theorem dX0_numberMonthOf_79 : decode cX0_numberMonthOf 79 = .ok (.iload_n 3, 1) := by decide +kernel
theorem dX0_numberMonthOf_80 : decode cX0_numberMonthOf 80 = .ok (.if_icmp .gt 49, 3) := by decide +kernel
theorem dX0_numberMonthOf_83 : decode cX0_numberMonthOf 83 = .ok (.iload 5, 2) := by decide +kernel
theorem dX0_numberMonthOf_85 : decode cX0_numberMonthOf 85 = .ok (.invokestatic 26, 3) := by decide +kernel
theorem dX0_numberMonthOf_88 : decode cX0_numberMonthOf 88 = .ok (.ifCond .eq 41, 3) := by decide +kernel
theorem dX0_numberMonthOf_91 : decode cX0_numberMonthOf 91 = .ok (.aload_n 0, 1) := by decide +kernel
theorem dX0_numberMonthOf_92 : decode cX0_numberMonthOf 92 = .ok (.getfield 19, 3) := by decide +kernel
theorem dX0_numberMonthOf_95 : decode cX0_numberMonthOf 95 = .ok (.iload 5, 2) := by decide +kernel
theorem dX0_numberMonthOf_97 : decode cX0_numberMonthOf 97 = .ok (.aload_n 0, 1) := by decide +kernel
theorem dX0_numberMonthOf_98 : decode cX0_numberMonthOf 98 = .ok (.iload 5, 2) := by decide +kernel
theorem dX0_numberMonthOf_100 : decode cX0_numberMonthOf 100 = .ok (.invokevirtual 30, 3) := by decide +kernel
theorem dX0_numberMonthOf_103 : decode cX0_numberMonthOf 103 = .ok (.ifCond .eq 18, 3) := by decide +kernel
theorem dX0_numberMonthOf_106 : decode cX0_numberMonthOf 106 = .ok (.iload 4, 2) := by decide +kernel
theorem dX0_numberMonthOf_108 : decode cX0_numberMonthOf 108 = .ok (.iconst 1, 1) := by decide +kernel
theorem dX0_numberMonthOf_109 : decode cX0_numberMonthOf 109 = .ok (.iadd, 1) := by decide +kernel
theorem dX0_numberMonthOf_110 : decode cX0_numberMonthOf 110 = .ok (.aload_n 0, 1) := by decide +kernel
theorem dX0_numberMonthOf_111 : decode cX0_numberMonthOf 111 = .ok (.getfield 15, 3) := by decide +kernel
theorem dX0_numberMonthOf_114 : decode cX0_numberMonthOf 114 = .ok (.iload 5, 2) := by decide +kernel
theorem dX0_numberMonthOf_116 : decode cX0_numberMonthOf 116 = .ok (.iaload, 1) := by decide +kernel
theorem dX0_numberMonthOf_117 : decode cX0_numberMonthOf 117 = .ok (.isub, 1) := by decide +kernel
theorem dX0_numberMonthOf_118 : decode cX0_numberMonthOf 118 = .ok (.goto 4, 3) := by decide +kernel
theorem dX0_numberMonthOf_121 : decode cX0_numberMonthOf 121 = .ok (.iconst 0, 1) := by decide +kernel
theorem dX0_numberMonthOf_122 : decode cX0_numberMonthOf 122 = .ok (.iastore, 1) := by decide +kernel
theorem dX0_numberMonthOf_123 : decode cX0_numberMonthOf 123 = .ok (.iinc 5 1, 3) := by decide +kernel
theorem dX0_numberMonthOf_126 : decode cX0_numberMonthOf 126 = .ok (.goto (-49), 3) := by decide +kernel
theorem dX0_numberMonthOf_129 : decode cX0_numberMonthOf 129 = .ok (.return_, 1) := by decide +kernel
theorem dX1_init_0 : decode cX1_init 0 = .ok (.aload_n 0, 1) := by decide +kernel
theorem dX1_init_1 : decode cX1_init 1 = .ok (.invokespecial 3, 3) := by decide +kernel
theorem dX1_init_4 : decode cX1_init 4 = .ok (.aload_n 0, 1) := by decide +kernel
theorem dX1_init_5 : decode cX1_init 5 = .ok (.iconst 0, 1) := by decide +kernel
theorem dX1_init_6 : decode cX1_init 6 = .ok (.putfield 9, 3) := by decide +kernel
theorem dX1_init_9 : decode cX1_init 9 = .ok (.aload_n 0, 1) := by decide +kernel
theorem dX1_init_10 : decode cX1_init 10 = .ok (.iconst 0, 1) := by decide +kernel
theorem dX1_init_11 : decode cX1_init 11 = .ok (.putfield 15, 3) := by decide +kernel
theorem dX1_init_14 : decode cX1_init 14 = .ok (.aload_n 0, 1) := by decide +kernel
theorem dX1_init_15 : decode cX1_init 15 = .ok (.iconst 0, 1) := by decide +kernel
theorem dX1_init_16 : decode cX1_init 16 = .ok (.putfield 18, 3) := by decide +kernel
theorem dX1_init_19 : decode cX1_init 19 = .ok (.aload_n 0, 1) := by decide +kernel
theorem dX1_init_20 : decode cX1_init 20 = .ok (.iconst (-1), 1) := by decide +kernel
theorem dX1_init_21 : decode cX1_init 21 = .ok (.putfield 21, 3) := by decide +kernel
theorem dX1_init_24 : decode cX1_init 24 = .ok (.aload_n 0, 1) := by decide +kernel
theorem dX1_init_25 : decode cX1_init 25 = .ok (.iconst (-1), 1) := by decide +kernel
theorem dX1_init_26 : decode cX1_init 26 = .ok (.putfield 24, 3) := by decide +kernel
theorem dX1_init_29 : decode cX1_init 29 = .ok (.aload_n 0, 1) := by decide +kernel
theorem dX1_init_30 : decode cX1_init 30 = .ok (.sipush 720, 3) := by decide +kernel
theorem dX1_init_33 : decode cX1_init 33 = .ok (.newarray .boolean, 2) := by decide +kernel
theorem dX1_init_35 : decode cX1_init 35 = .ok (.putfield 27, 3) := by decide +kernel
theorem dX1_init_38 : decode cX1_init 38 = .ok (.aload_n 0, 1) := by decide +kernel
theorem dX1_init_39 : decode cX1_init 39 = .ok (.iload_n 1, 1) := by decide +kernel
theorem dX1_init_40 : decode cX1_init 40 = .ok (.putfield 31, 3) := by decide +kernel
theorem dX1_init_43 : decode cX1_init 43 = .ok (.aload_n 0, 1) := by decide +kernel
theorem dX1_init_44 : decode cX1_init 44 = .ok (.iload_n 2, 1) := by decide +kernel
theorem dX1_init_45 : decode cX1_init 45 = .ok (.putfield 34, 3) := by decide +kernel
theorem dX1_init_48 : decode cX1_init 48 = .ok (.aload_n 0, 1) := by decide +kernel
theorem dX1_init_49 : decode cX1_init 49 = .ok (.iload_n 3, 1) := by decide +kernel
theorem dX1_init_50 : decode cX1_init 50 = .ok (.putfield 37, 3) := by decide +kernel
theorem dX1_init_53 : decode cX1_init 53 = .ok (.aload_n 0, 1) := by decide +kernel
theorem dX1_init_54 : decode cX1_init 54 = .ok (.iload 4, 2) := by decide +kernel
theorem dX1_init_56 : decode cX1_init 56 = .ok (.putfield 40, 3) := by decide +kernel
theorem dX1_init_59 : decode cX1_init 59 = .ok (.aload_n 0, 1) := by decide +kernel
theorem dX1_init_60 : decode cX1_init 60 = .ok (.iload 5, 2) := by decide +kernel
theorem dX1_init_62 : decode cX1_init 62 = .ok (.putfield 43, 3) := by decide +kernel
theorem dX1_init_65 : decode cX1_init 65 = .ok (.aload_n 0, 1) := by decide +kernel
theorem dX1_init_66 : decode cX1_init 66 = .ok (.iload 6, 2) := by decide +kernel
theorem dX1_init_68 : decode cX1_init 68 = .ok (.putfield 46, 3) := by decide +kernel
theorem dX1_init_71 : decode cX1_init 71 = .ok (.return_, 1) := by decide +kernel
theorem dX1_requires_0 : decode cX1_requires 0 = .ok (.aload_n 0, 1) := by decide +kernel
theorem dX1_requires_1 : decode cX1_requires 1 = .ok (.getfield 9, 3) := by decide +kernel
theorem dX1_requires_4 : decode cX1_requires 4 = .ok (.iconst 1, 1) := by decide +kernel
theorem dX1_requires_5 : decode cX1_requires 5 = .ok (.iload_n 1, 1) := by decide +kernel
theorem dX1_requires_6 : decode cX1_requires 6 = .ok (.ishl, 1) := by decide +kernel
theorem dX1_requires_7 : decode cX1_requires 7 = .ok (.iand, 1) := by decide +kernel
theorem dX1_requires_8 : decode cX1_requires 8 = .ok (.ifCond .eq 7, 3) := by decide +kernel
theorem dX1_requires_11 : decode cX1_requires 11 = .ok (.iconst 1, 1) := by decide +kernel
theorem dX1_requires_12 : decode cX1_requires 12 = .ok (.goto 4, 3) := by decide +kernel
theorem dX1_requires_15 : decode cX1_requires 15 = .ok (.iconst 0, 1) := by decide +kernel
theorem dX1_requires_16 : decode cX1_requires 16 = .ok (.ireturn, 1) := by decide +kernel
theorem dX1_needs_0 : decode cX1_needs 0 = .ok (.aload_n 0, 1) := by decide +kernel
theorem dX1_needs_1 : decode cX1_needs 1 = .ok (.getfield 15, 3) := by decide +kernel
theorem dX1_needs_4 : decode cX1_needs 4 = .ok (.iconst 1, 1) := by decide +kernel
theorem dX1_needs_5 : decode cX1_needs 5 = .ok (.iload_n 1, 1) := by decide +kernel
theorem dX1_needs_6 : decode cX1_needs 6 = .ok (.ishl, 1) := by decide +kernel
theorem dX1_needs_7 : decode cX1_needs 7 = .ok (.iand, 1) := by decide +kernel
theorem dX1_needs_8 : decode cX1_needs 8 = .ok (.ifCond .eq 7, 3) := by decide +kernel
theorem dX1_needs_11 : decode cX1_needs 11 = .ok (.iconst 1, 1) := by decide +kernel
theorem dX1_needs_12 : decode cX1_needs 12 = .ok (.goto 4, 3) := by decide +kernel
theorem dX1_needs_15 : decode cX1_needs 15 = .ok (.iconst 0, 1) := by decide +kernel
theorem dX1_needs_16 : decode cX1_needs 16 = .ok (.ireturn, 1) := by decide +kernel
theorem dX1_layDueDays_0 : decode cX1_layDueDays 0 = .ok (.iconst 0, 1) := by decide +kernel
theorem dX1_layDueDays_1 : decode cX1_layDueDays 1 = .ok (.istore_n 2, 1) := by decide +kernel
theorem dX1_layDueDays_2 : decode cX1_layDueDays 2 = .ok (.iconst 0, 1) := by decide +kernel
theorem dX1_layDueDays_3 : decode cX1_layDueDays 3 = .ok (.istore_n 3, 1) := by decide +kernel
theorem dX1_layDueDays_4 : decode cX1_layDueDays 4 = .ok (.iload_n 3, 1) := by decide +kernel
theorem dX1_layDueDays_5 : decode cX1_layDueDays 5 = .ok (.sipush 720, 3) := by decide +kernel
theorem dX1_layDueDays_8 : decode cX1_layDueDays 8 = .ok (.if_icmp .ge 92, 3) := by decide +kernel
theorem dX1_layDueDays_11 : decode cX1_layDueDays 11 = .ok (.aload_n 0, 1) := by decide +kernel
theorem dX1_layDueDays_12 : decode cX1_layDueDays 12 = .ok (.getfield 37, 3) := by decide +kernel
theorem dX1_layDueDays_15 : decode cX1_layDueDays 15 = .ok (.iconst 1, 1) := by decide +kernel
theorem dX1_layDueDays_16 : decode cX1_layDueDays 16 = .ok (.if_icmp .ne 11, 3) := by decide +kernel
theorem dX1_layDueDays_19 : decode cX1_layDueDays 19 = .ok (.sipush 719, 3) := by decide +kernel
theorem dX1_layDueDays_22 : decode cX1_layDueDays 22 = .ok (.iload_n 3, 1) := by decide +kernel
theorem dX1_layDueDays_23 : decode cX1_layDueDays 23 = .ok (.isub, 1) := by decide +kernel
theorem dX1_layDueDays_24 : decode cX1_layDueDays 24 = .ok (.goto 4, 3) := by decide +kernel
theorem dX1_layDueDays_27 : decode cX1_layDueDays 27 = .ok (.iload_n 3, 1) := by decide +kernel
theorem dX1_layDueDays_28 : decode cX1_layDueDays 28 = .ok (.istore 4, 2) := by decide +kernel
theorem dX1_layDueDays_30 : decode cX1_layDueDays 30 = .ok (.aload_n 1, 1) := by decide +kernel
theorem dX1_layDueDays_31 : decode cX1_layDueDays 31 = .ok (.iload 4, 2) := by decide +kernel
theorem dX1_layDueDays_33 : decode cX1_layDueDays 33 = .ok (.invokevirtual 49, 3) := by decide +kernel
theorem dX1_layDueDays_36 : decode cX1_layDueDays 36 = .ok (.istore 5, 2) := by decide +kernel
theorem dX1_layDueDays_38 : decode cX1_layDueDays 38 = .ok (.iload_n 2, 1) := by decide +kernel
theorem dX1_layDueDays_39 : decode cX1_layDueDays 39 = .ok (.ifCond .ne 13, 3) := by decide +kernel
theorem dX1_layDueDays_42 : decode cX1_layDueDays 42 = .ok (.aload_n 0, 1) := by decide +kernel
theorem dX1_layDueDays_43 : decode cX1_layDueDays 43 = .ok (.iload 4, 2) := by decide +kernel
theorem dX1_layDueDays_45 : decode cX1_layDueDays 45 = .ok (.aload_n 1, 1) := by decide +kernel
theorem dX1_layDueDays_46 : decode cX1_layDueDays 46 = .ok (.invokevirtual 55, 3) := by decide +kernel
theorem dX1_layDueDays_49 : decode cX1_layDueDays 49 = .ok (.ifCond .eq 7, 3) := by decide +kernel
theorem dX1_layDueDays_52 : decode cX1_layDueDays 52 = .ok (.iconst 1, 1) := by decide +kernel
theorem dX1_layDueDays_53 : decode cX1_layDueDays 53 = .ok (.goto 4, 3) := by decide +kernel
theorem dX1_layDueDays_56 : decode cX1_layDueDays 56 = .ok (.iconst 0, 1) := by decide +kernel
theorem dX1_layDueDays_57 : decode cX1_layDueDays 57 = .ok (.istore_n 2, 1) := by decide +kernel
theorem dX1_layDueDays_58 : decode cX1_layDueDays 58 = .ok (.aload_n 0, 1) := by decide +kernel
theorem dX1_layDueDays_59 : decode cX1_layDueDays 59 = .ok (.getfield 27, 3) := by decide +kernel
theorem dX1_layDueDays_62 : decode cX1_layDueDays 62 = .ok (.iload 4, 2) := by decide +kernel
theorem dX1_layDueDays_64 : decode cX1_layDueDays 64 = .ok (.iload 5, 2) := by decide +kernel
theorem dX1_layDueDays_66 : decode cX1_layDueDays 66 = .ok (.ifCond .eq 11, 3) := by decide +kernel
theorem dX1_layDueDays_69 : decode cX1_layDueDays 69 = .ok (.iload_n 2, 1) := by decide +kernel
theorem dX1_layDueDays_70 : decode cX1_layDueDays 70 = .ok (.ifCond .eq 7, 3) := by decide +kernel
theorem dX1_layDueDays_73 : decode cX1_layDueDays 73 = .ok (.iconst 1, 1) := by decide +kernel
theorem dX1_layDueDays_74 : decode cX1_layDueDays 74 = .ok (.goto 4, 3) := by decide +kernel
theorem dX1_layDueDays_77 : decode cX1_layDueDays 77 = .ok (.iconst 0, 1) := by decide +kernel
theorem dX1_layDueDays_78 : decode cX1_layDueDays 78 = .ok (.bastore, 1) := by decide +kernel
theorem dX1_layDueDays_79 : decode cX1_layDueDays 79 = .ok (.iload 5, 2) := by decide +kernel
theorem dX1_layDueDays_81 : decode cX1_layDueDays 81 = .ok (.ifCond .ne 11, 3) := by decide +kernel
theorem dX1_layDueDays_84 : decode cX1_layDueDays 84 = .ok (.aload_n 0, 1) := by decide +kernel
theorem dX1_layDueDays_85 : decode cX1_layDueDays 85 = .ok (.getfield 37, 3) := by decide +kernel
theorem dX1_layDueDays_88 : decode cX1_layDueDays 88 = .ok (.iconst 2, 1) := by decide +kernel
theorem dX1_layDueDays_89 : decode cX1_layDueDays 89 = .ok (.if_icmp .ne 5, 3) := by decide +kernel
theorem dX1_layDueDays_92 : decode cX1_layDueDays 92 = .ok (.iconst 0, 1) := by decide +kernel
theorem dX1_layDueDays_93 : decode cX1_layDueDays 93 = .ok (.istore_n 2, 1) := by decide +kernel
theorem dX1_layDueDays_94 : decode cX1_layDueDays 94 = .ok (.iinc 3 1, 3) := by decide +kernel
theorem dX1_layDueDays_97 : decode cX1_layDueDays 97 = .ok (.goto (-93), 3) := by decide +kernel
theorem dX1_layDueDays_100 : decode cX1_layDueDays 100 = .ok (.return_, 1) := by decide +kernel
theorem dX1_isDueOn_0 : decode cX1_isDueOn 0 = .ok (.iload_n 1, 1) := by decide +kernel
theorem dX1_isDueOn_1 : decode cX1_isDueOn 1 = .ok (.invokestatic 59, 3) := by decide +kernel
theorem dX1_isDueOn_4 : decode cX1_isDueOn 4 = .ok (.ifCond .eq 16, 3) := by decide +kernel
theorem dX1_isDueOn_7 : decode cX1_isDueOn 7 = .ok (.aload_n 0, 1) := by decide +kernel
theorem dX1_isDueOn_8 : decode cX1_isDueOn 8 = .ok (.getfield 27, 3) := by decide +kernel
theorem dX1_isDueOn_11 : decode cX1_isDueOn 11 = .ok (.iload_n 1, 1) := by decide +kernel
theorem dX1_isDueOn_12 : decode cX1_isDueOn 12 = .ok (.baload, 1) := by decide +kernel
theorem dX1_isDueOn_13 : decode cX1_isDueOn 13 = .ok (.ifCond .eq 7, 3) := by decide +kernel
theorem dX1_isDueOn_16 : decode cX1_isDueOn 16 = .ok (.iconst 1, 1) := by decide +kernel
theorem dX1_isDueOn_17 : decode cX1_isDueOn 17 = .ok (.goto 4, 3) := by decide +kernel
theorem dX1_isDueOn_20 : decode cX1_isDueOn 20 = .ok (.iconst 0, 1) := by decide +kernel
theorem dX1_isDueOn_21 : decode cX1_isDueOn 21 = .ok (.ireturn, 1) := by decide +kernel
theorem dX1_dayOfDuty_0 : decode cX1_dayOfDuty 0 = .ok (.iconst 0, 1) := by decide +kernel
theorem dX1_dayOfDuty_1 : decode cX1_dayOfDuty 1 = .ok (.istore_n 2, 1) := by decide +kernel
theorem dX1_dayOfDuty_2 : decode cX1_dayOfDuty 2 = .ok (.iconst 0, 1) := by decide +kernel
theorem dX1_dayOfDuty_3 : decode cX1_dayOfDuty 3 = .ok (.istore_n 3, 1) := by decide +kernel
theorem dX1_dayOfDuty_4 : decode cX1_dayOfDuty 4 = .ok (.iload_n 3, 1) := by decide +kernel
theorem dX1_dayOfDuty_5 : decode cX1_dayOfDuty 5 = .ok (.sipush 720, 3) := by decide +kernel
theorem dX1_dayOfDuty_8 : decode cX1_dayOfDuty 8 = .ok (.if_icmp .ge 28, 3) := by decide +kernel
theorem dX1_dayOfDuty_11 : decode cX1_dayOfDuty 11 = .ok (.aload_n 0, 1) := by decide +kernel
theorem dX1_dayOfDuty_12 : decode cX1_dayOfDuty 12 = .ok (.getfield 27, 3) := by decide +kernel
theorem dX1_dayOfDuty_15 : decode cX1_dayOfDuty 15 = .ok (.iload_n 3, 1) := by decide +kernel
theorem dX1_dayOfDuty_16 : decode cX1_dayOfDuty 16 = .ok (.baload, 1) := by decide +kernel
theorem dX1_dayOfDuty_17 : decode cX1_dayOfDuty 17 = .ok (.ifCond .eq 13, 3) := by decide +kernel
theorem dX1_dayOfDuty_20 : decode cX1_dayOfDuty 20 = .ok (.iload_n 2, 1) := by decide +kernel
theorem dX1_dayOfDuty_21 : decode cX1_dayOfDuty 21 = .ok (.iload_n 1, 1) := by decide +kernel
theorem dX1_dayOfDuty_22 : decode cX1_dayOfDuty 22 = .ok (.if_icmp .ne 5, 3) := by decide +kernel
theorem dX1_dayOfDuty_25 : decode cX1_dayOfDuty 25 = .ok (.iload_n 3, 1) := by decide +kernel
theorem dX1_dayOfDuty_26 : decode cX1_dayOfDuty 26 = .ok (.ireturn, 1) := by decide +kernel
theorem dX1_dayOfDuty_27 : decode cX1_dayOfDuty 27 = .ok (.iinc 2 1, 3) := by decide +kernel
theorem dX1_dayOfDuty_30 : decode cX1_dayOfDuty 30 = .ok (.iinc 3 1, 3) := by decide +kernel
theorem dX1_dayOfDuty_33 : decode cX1_dayOfDuty 33 = .ok (.goto (-29), 3) := by decide +kernel
theorem dX1_dayOfDuty_36 : decode cX1_dayOfDuty 36 = .ok (.iconst (-1), 1) := by decide +kernel
theorem dX1_dayOfDuty_37 : decode cX1_dayOfDuty 37 = .ok (.ireturn, 1) := by decide +kernel
theorem dX1_countDueBefore_0 : decode cX1_countDueBefore 0 = .ok (.iconst 0, 1) := by decide +kernel
theorem dX1_countDueBefore_1 : decode cX1_countDueBefore 1 = .ok (.istore_n 2, 1) := by decide +kernel
theorem dX1_countDueBefore_2 : decode cX1_countDueBefore 2 = .ok (.iconst 0, 1) := by decide +kernel
theorem dX1_countDueBefore_3 : decode cX1_countDueBefore 3 = .ok (.istore_n 3, 1) := by decide +kernel
theorem dX1_countDueBefore_4 : decode cX1_countDueBefore 4 = .ok (.iload_n 3, 1) := by decide +kernel
theorem dX1_countDueBefore_5 : decode cX1_countDueBefore 5 = .ok (.iload_n 1, 1) := by decide +kernel
theorem dX1_countDueBefore_6 : decode cX1_countDueBefore 6 = .ok (.if_icmp .ge 20, 3) := by decide +kernel
theorem dX1_countDueBefore_9 : decode cX1_countDueBefore 9 = .ok (.aload_n 0, 1) := by decide +kernel
theorem dX1_countDueBefore_10 : decode cX1_countDueBefore 10 = .ok (.iload_n 3, 1) := by decide +kernel
theorem dX1_countDueBefore_11 : decode cX1_countDueBefore 11 = .ok (.invokevirtual 62, 3) := by decide +kernel
theorem dX1_countDueBefore_14 : decode cX1_countDueBefore 14 = .ok (.ifCond .eq 6, 3) := by decide +kernel
theorem dX1_countDueBefore_17 : decode cX1_countDueBefore 17 = .ok (.iinc 2 1, 3) := by decide +kernel
theorem dX1_countDueBefore_20 : decode cX1_countDueBefore 20 = .ok (.iinc 3 1, 3) := by decide +kernel
theorem dX1_countDueBefore_23 : decode cX1_countDueBefore 23 = .ok (.goto (-19), 3) := by decide +kernel
theorem dX1_countDueBefore_26 : decode cX1_countDueBefore 26 = .ok (.iload_n 2, 1) := by decide +kernel
theorem dX1_countDueBefore_27 : decode cX1_countDueBefore 27 = .ok (.ireturn, 1) := by decide +kernel
theorem dX1_firstDueFrom_0 : decode cX1_firstDueFrom 0 = .ok (.iload_n 1, 1) := by decide +kernel
theorem dX1_firstDueFrom_1 : decode cX1_firstDueFrom 1 = .ok (.istore_n 2, 1) := by decide +kernel
theorem dX1_firstDueFrom_2 : decode cX1_firstDueFrom 2 = .ok (.iload_n 2, 1) := by decide +kernel
theorem dX1_firstDueFrom_3 : decode cX1_firstDueFrom 3 = .ok (.sipush 720, 3) := by decide +kernel
theorem dX1_firstDueFrom_6 : decode cX1_firstDueFrom 6 = .ok (.if_icmp .ge 19, 3) := by decide +kernel
theorem dX1_firstDueFrom_9 : decode cX1_firstDueFrom 9 = .ok (.aload_n 0, 1) := by decide +kernel
theorem dX1_firstDueFrom_10 : decode cX1_firstDueFrom 10 = .ok (.iload_n 2, 1) := by decide +kernel
theorem dX1_firstDueFrom_11 : decode cX1_firstDueFrom 11 = .ok (.invokevirtual 62, 3) := by decide +kernel
theorem dX1_firstDueFrom_14 : decode cX1_firstDueFrom 14 = .ok (.ifCond .eq 5, 3) := by decide +kernel
theorem dX1_firstDueFrom_17 : decode cX1_firstDueFrom 17 = .ok (.iload_n 2, 1) := by decide +kernel
theorem dX1_firstDueFrom_18 : decode cX1_firstDueFrom 18 = .ok (.ireturn, 1) := by decide +kernel
theorem dX1_firstDueFrom_19 : decode cX1_firstDueFrom 19 = .ok (.iinc 2 1, 3) := by decide +kernel
theorem dX1_firstDueFrom_22 : decode cX1_firstDueFrom 22 = .ok (.goto (-20), 3) := by decide +kernel
theorem dX1_firstDueFrom_25 : decode cX1_firstDueFrom 25 = .ok (.iconst (-1), 1) := by decide +kernel
theorem dX1_firstDueFrom_26 : decode cX1_firstDueFrom 26 = .ok (.ireturn, 1) := by decide +kernel
theorem dX1_openDay_0 : decode cX1_openDay 0 = .ok (.aload_n 0, 1) := by decide +kernel
theorem dX1_openDay_1 : decode cX1_openDay 1 = .ok (.aload_n 0, 1) := by decide +kernel
theorem dX1_openDay_2 : decode cX1_openDay 2 = .ok (.getfield 18, 3) := by decide +kernel
theorem dX1_openDay_5 : decode cX1_openDay 5 = .ok (.invokevirtual 65, 3) := by decide +kernel
theorem dX1_openDay_8 : decode cX1_openDay 8 = .ok (.ireturn, 1) := by decide +kernel
theorem dX1_hasEvidence_0 : decode cX1_hasEvidence 0 = .ok (.aload_n 0, 1) := by decide +kernel
theorem dX1_hasEvidence_1 : decode cX1_hasEvidence 1 = .ok (.getfield 21, 3) := by decide +kernel
theorem dX1_hasEvidence_4 : decode cX1_hasEvidence 4 = .ok (.iconst (-1), 1) := by decide +kernel
theorem dX1_hasEvidence_5 : decode cX1_hasEvidence 5 = .ok (.if_icmp .eq 7, 3) := by decide +kernel
theorem dX1_hasEvidence_8 : decode cX1_hasEvidence 8 = .ok (.iconst 1, 1) := by decide +kernel
theorem dX1_hasEvidence_9 : decode cX1_hasEvidence 9 = .ok (.goto 4, 3) := by decide +kernel
theorem dX1_hasEvidence_12 : decode cX1_hasEvidence 12 = .ok (.iconst 0, 1) := by decide +kernel
theorem dX1_hasEvidence_13 : decode cX1_hasEvidence 13 = .ok (.ireturn, 1) := by decide +kernel
theorem dX1_evidenceUntil_0 : decode cX1_evidenceUntil 0 = .ok (.aload_n 0, 1) := by decide +kernel
theorem dX1_evidenceUntil_1 : decode cX1_evidenceUntil 1 = .ok (.getfield 21, 3) := by decide +kernel
theorem dX1_evidenceUntil_4 : decode cX1_evidenceUntil 4 = .ok (.aload_n 0, 1) := by decide +kernel
theorem dX1_evidenceUntil_5 : decode cX1_evidenceUntil 5 = .ok (.getfield 46, 3) := by decide +kernel
theorem dX1_evidenceUntil_8 : decode cX1_evidenceUntil 8 = .ok (.iadd, 1) := by decide +kernel
theorem dX1_evidenceUntil_9 : decode cX1_evidenceUntil 9 = .ok (.ireturn, 1) := by decide +kernel
theorem dX1_walkToDue_0 : decode cX1_walkToDue 0 = .ok (.iload_n 1, 1) := by decide +kernel
theorem dX1_walkToDue_1 : decode cX1_walkToDue 1 = .ok (.istore_n 3, 1) := by decide +kernel
theorem dX1_walkToDue_2 : decode cX1_walkToDue 2 = .ok (.iload_n 3, 1) := by decide +kernel
theorem dX1_walkToDue_3 : decode cX1_walkToDue 3 = .ok (.sipush 720, 3) := by decide +kernel
theorem dX1_walkToDue_6 : decode cX1_walkToDue 6 = .ok (.if_icmp .ge 37, 3) := by decide +kernel
theorem dX1_walkToDue_9 : decode cX1_walkToDue 9 = .ok (.aload_n 2, 1) := by decide +kernel
theorem dX1_walkToDue_10 : decode cX1_walkToDue 10 = .ok (.iload_n 3, 1) := by decide +kernel
theorem dX1_walkToDue_11 : decode cX1_walkToDue 11 = .ok (.invokevirtual 49, 3) := by decide +kernel
theorem dX1_walkToDue_14 : decode cX1_walkToDue 14 = .ok (.ifCond .eq 23, 3) := by decide +kernel
theorem dX1_walkToDue_17 : decode cX1_walkToDue 17 = .ok (.aload_n 0, 1) := by decide +kernel
theorem dX1_walkToDue_18 : decode cX1_walkToDue 18 = .ok (.iload_n 3, 1) := by decide +kernel
theorem dX1_walkToDue_19 : decode cX1_walkToDue 19 = .ok (.aload_n 2, 1) := by decide +kernel
theorem dX1_walkToDue_20 : decode cX1_walkToDue 20 = .ok (.invokevirtual 55, 3) := by decide +kernel
theorem dX1_walkToDue_23 : decode cX1_walkToDue 23 = .ok (.ifCond .ne 12, 3) := by decide +kernel
theorem dX1_walkToDue_26 : decode cX1_walkToDue 26 = .ok (.aload_n 0, 1) := by decide +kernel
theorem dX1_walkToDue_27 : decode cX1_walkToDue 27 = .ok (.iload_n 3, 1) := by decide +kernel
theorem dX1_walkToDue_28 : decode cX1_walkToDue 28 = .ok (.aload_n 2, 1) := by decide +kernel
theorem dX1_walkToDue_29 : decode cX1_walkToDue 29 = .ok (.invokevirtual 69, 3) := by decide +kernel
theorem dX1_walkToDue_32 : decode cX1_walkToDue 32 = .ok (.ifCond .eq 5, 3) := by decide +kernel
theorem dX1_walkToDue_35 : decode cX1_walkToDue 35 = .ok (.iload_n 3, 1) := by decide +kernel
theorem dX1_walkToDue_36 : decode cX1_walkToDue 36 = .ok (.ireturn, 1) := by decide +kernel
theorem dX1_walkToDue_37 : decode cX1_walkToDue 37 = .ok (.iinc 3 1, 3) := by decide +kernel
theorem dX1_walkToDue_40 : decode cX1_walkToDue 40 = .ok (.goto (-38), 3) := by decide +kernel
theorem dX1_walkToDue_43 : decode cX1_walkToDue 43 = .ok (.iconst (-1), 1) := by decide +kernel
theorem dX1_walkToDue_44 : decode cX1_walkToDue 44 = .ok (.ireturn, 1) := by decide +kernel
theorem dX1_isMovedTo_0 : decode cX1_isMovedTo 0 = .ok (.aload_n 0, 1) := by decide +kernel
theorem dX1_isMovedTo_1 : decode cX1_isMovedTo 1 = .ok (.getfield 37, 3) := by decide +kernel
theorem dX1_isMovedTo_4 : decode cX1_isMovedTo 4 = .ok (.iconst 2, 1) := by decide +kernel
theorem dX1_isMovedTo_5 : decode cX1_isMovedTo 5 = .ok (.if_icmp .ne 5, 3) := by decide +kernel
theorem dX1_isMovedTo_8 : decode cX1_isMovedTo 8 = .ok (.iconst 0, 1) := by decide +kernel
theorem dX1_isMovedTo_9 : decode cX1_isMovedTo 9 = .ok (.ireturn, 1) := by decide +kernel
theorem dX1_isMovedTo_10 : decode cX1_isMovedTo 10 = .ok (.aload_n 0, 1) := by decide +kernel
theorem dX1_isMovedTo_11 : decode cX1_isMovedTo 11 = .ok (.getfield 37, 3) := by decide +kernel
theorem dX1_isMovedTo_14 : decode cX1_isMovedTo 14 = .ok (.ifCond .ne 7, 3) := by decide +kernel
theorem dX1_isMovedTo_17 : decode cX1_isMovedTo 17 = .ok (.iconst (-1), 1) := by decide +kernel
theorem dX1_isMovedTo_18 : decode cX1_isMovedTo 18 = .ok (.goto 4, 3) := by decide +kernel
theorem dX1_isMovedTo_21 : decode cX1_isMovedTo 21 = .ok (.iconst 1, 1) := by decide +kernel
theorem dX1_isMovedTo_22 : decode cX1_isMovedTo 22 = .ok (.istore_n 3, 1) := by decide +kernel
theorem dX1_isMovedTo_23 : decode cX1_isMovedTo 23 = .ok (.iload_n 1, 1) := by decide +kernel
theorem dX1_isMovedTo_24 : decode cX1_isMovedTo 24 = .ok (.iload_n 3, 1) := by decide +kernel
theorem dX1_isMovedTo_25 : decode cX1_isMovedTo 25 = .ok (.iadd, 1) := by decide +kernel
theorem dX1_isMovedTo_26 : decode cX1_isMovedTo 26 = .ok (.istore 4, 2) := by decide +kernel
theorem dX1_isMovedTo_28 : decode cX1_isMovedTo 28 = .ok (.iload 4, 2) := by decide +kernel
theorem dX1_isMovedTo_30 : decode cX1_isMovedTo 30 = .ok (.ifCond .lt 41, 3) := by decide +kernel
theorem dX1_isMovedTo_33 : decode cX1_isMovedTo 33 = .ok (.iload 4, 2) := by decide +kernel
theorem dX1_isMovedTo_35 : decode cX1_isMovedTo 35 = .ok (.sipush 720, 3) := by decide +kernel
theorem dX1_isMovedTo_38 : decode cX1_isMovedTo 38 = .ok (.if_icmp .ge 33, 3) := by decide +kernel
theorem dX1_isMovedTo_41 : decode cX1_isMovedTo 41 = .ok (.aload_n 2, 1) := by decide +kernel
theorem dX1_isMovedTo_42 : decode cX1_isMovedTo 42 = .ok (.iload 4, 2) := by decide +kernel
theorem dX1_isMovedTo_44 : decode cX1_isMovedTo 44 = .ok (.invokevirtual 49, 3) := by decide +kernel
theorem dX1_isMovedTo_47 : decode cX1_isMovedTo 47 = .ok (.ifCond .ne 24, 3) := by decide +kernel
theorem dX1_isMovedTo_50 : decode cX1_isMovedTo 50 = .ok (.aload_n 0, 1) := by decide +kernel
theorem dX1_isMovedTo_51 : decode cX1_isMovedTo 51 = .ok (.iload 4, 2) := by decide +kernel
theorem dX1_isMovedTo_53 : decode cX1_isMovedTo 53 = .ok (.aload_n 2, 1) := by decide +kernel
theorem dX1_isMovedTo_54 : decode cX1_isMovedTo 54 = .ok (.invokevirtual 55, 3) := by decide +kernel
theorem dX1_isMovedTo_57 : decode cX1_isMovedTo 57 = .ok (.ifCond .eq 5, 3) := by decide +kernel
theorem dX1_isMovedTo_60 : decode cX1_isMovedTo 60 = .ok (.iconst 1, 1) := by decide +kernel
theorem dX1_isMovedTo_61 : decode cX1_isMovedTo 61 = .ok (.ireturn, 1) := by decide +kernel
theorem dX1_isMovedTo_62 : decode cX1_isMovedTo 62 = .ok (.iload 4, 2) := by decide +kernel
theorem dX1_isMovedTo_64 : decode cX1_isMovedTo 64 = .ok (.iload_n 3, 1) := by decide +kernel
theorem dX1_isMovedTo_65 : decode cX1_isMovedTo 65 = .ok (.iadd, 1) := by decide +kernel
theorem dX1_isMovedTo_66 : decode cX1_isMovedTo 66 = .ok (.istore 4, 2) := by decide +kernel
theorem dX1_isMovedTo_68 : decode cX1_isMovedTo 68 = .ok (.goto (-40), 3) := by decide +kernel
theorem dX1_isMovedTo_71 : decode cX1_isMovedTo 71 = .ok (.iconst 0, 1) := by decide +kernel
theorem dX1_isMovedTo_72 : decode cX1_isMovedTo 72 = .ok (.ireturn, 1) := by decide +kernel
theorem dX1_isNominal_0 : decode cX1_isNominal 0 = .ok (.iload_n 1, 1) := by decide +kernel
theorem dX1_isNominal_1 : decode cX1_isNominal 1 = .ok (.aload_n 0, 1) := by decide +kernel
theorem dX1_isNominal_2 : decode cX1_isNominal 2 = .ok (.getfield 40, 3) := by decide +kernel
theorem dX1_isNominal_5 : decode cX1_isNominal 5 = .ok (.if_icmp .ge 5, 3) := by decide +kernel
theorem dX1_isNominal_8 : decode cX1_isNominal 8 = .ok (.iconst 0, 1) := by decide +kernel
theorem dX1_isNominal_9 : decode cX1_isNominal 9 = .ok (.ireturn, 1) := by decide +kernel
theorem dX1_isNominal_10 : decode cX1_isNominal 10 = .ok (.aload_n 0, 1) := by decide +kernel
theorem dX1_isNominal_11 : decode cX1_isNominal 11 = .ok (.getfield 31, 3) := by decide +kernel
theorem dX1_isNominal_14 : decode cX1_isNominal 14 = .ok (.tableswitch 88 0 2 #[26, 53, 70], 26) := by decide +kernel
theorem dX1_isNominal_40 : decode cX1_isNominal 40 = .ok (.aload_n 0, 1) := by decide +kernel
theorem dX1_isNominal_41 : decode cX1_isNominal 41 = .ok (.getfield 34, 3) := by decide +kernel
theorem dX1_isNominal_44 : decode cX1_isNominal 44 = .ok (.ifCond .le 21, 3) := by decide +kernel
theorem dX1_isNominal_47 : decode cX1_isNominal 47 = .ok (.iload_n 1, 1) := by decide +kernel
theorem dX1_isNominal_48 : decode cX1_isNominal 48 = .ok (.aload_n 0, 1) := by decide +kernel
theorem dX1_isNominal_49 : decode cX1_isNominal 49 = .ok (.getfield 40, 3) := by decide +kernel
theorem dX1_isNominal_52 : decode cX1_isNominal 52 = .ok (.isub, 1) := by decide +kernel
theorem dX1_isNominal_53 : decode cX1_isNominal 53 = .ok (.aload_n 0, 1) := by decide +kernel
theorem dX1_isNominal_54 : decode cX1_isNominal 54 = .ok (.getfield 34, 3) := by decide +kernel
theorem dX1_isNominal_57 : decode cX1_isNominal 57 = .ok (.irem, 1) := by decide +kernel
theorem dX1_isNominal_58 : decode cX1_isNominal 58 = .ok (.ifCond .ne 7, 3) := by decide +kernel
theorem dX1_isNominal_61 : decode cX1_isNominal 61 = .ok (.iconst 1, 1) := by decide +kernel
theorem dX1_isNominal_62 : decode cX1_isNominal 62 = .ok (.goto 4, 3) := by decide +kernel
theorem dX1_isNominal_65 : decode cX1_isNominal 65 = .ok (.iconst 0, 1) := by decide +kernel
theorem dX1_isNominal_66 : decode cX1_isNominal 66 = .ok (.ireturn, 1) := by decide +kernel
theorem dX1_isNominal_67 : decode cX1_isNominal 67 = .ok (.iload_n 1, 1) := by decide +kernel
theorem dX1_isNominal_68 : decode cX1_isNominal 68 = .ok (.bipush 30, 2) := by decide +kernel
theorem dX1_isNominal_70 : decode cX1_isNominal 70 = .ok (.irem, 1) := by decide +kernel
theorem dX1_isNominal_71 : decode cX1_isNominal 71 = .ok (.aload_n 0, 1) := by decide +kernel
theorem dX1_isNominal_72 : decode cX1_isNominal 72 = .ok (.getfield 34, 3) := by decide +kernel
theorem dX1_isNominal_75 : decode cX1_isNominal 75 = .ok (.if_icmp .ne 7, 3) := by decide +kernel
theorem dX1_isNominal_78 : decode cX1_isNominal 78 = .ok (.iconst 1, 1) := by decide +kernel
theorem dX1_isNominal_79 : decode cX1_isNominal 79 = .ok (.goto 4, 3) := by decide +kernel
theorem dX1_isNominal_82 : decode cX1_isNominal 82 = .ok (.iconst 0, 1) := by decide +kernel
theorem dX1_isNominal_83 : decode cX1_isNominal 83 = .ok (.ireturn, 1) := by decide +kernel
theorem dX1_isNominal_84 : decode cX1_isNominal 84 = .ok (.aload_n 2, 1) := by decide +kernel
theorem dX1_isNominal_85 : decode cX1_isNominal 85 = .ok (.iload_n 1, 1) := by decide +kernel
theorem dX1_isNominal_86 : decode cX1_isNominal 86 = .ok (.invokevirtual 72, 3) := by decide +kernel
theorem dX1_isNominal_89 : decode cX1_isNominal 89 = .ok (.aload_n 0, 1) := by decide +kernel
theorem dX1_isNominal_90 : decode cX1_isNominal 90 = .ok (.getfield 34, 3) := by decide +kernel
theorem dX1_isNominal_93 : decode cX1_isNominal 93 = .ok (.if_icmp .ne 7, 3) := by decide +kernel
theorem dX1_isNominal_96 : decode cX1_isNominal 96 = .ok (.iconst 1, 1) := by decide +kernel
theorem dX1_isNominal_97 : decode cX1_isNominal 97 = .ok (.goto 4, 3) := by decide +kernel
theorem dX1_isNominal_100 : decode cX1_isNominal 100 = .ok (.iconst 0, 1) := by decide +kernel
theorem dX1_isNominal_101 : decode cX1_isNominal 101 = .ok (.ireturn, 1) := by decide +kernel
theorem dX1_isNominal_102 : decode cX1_isNominal 102 = .ok (.aload_n 2, 1) := by decide +kernel
theorem dX1_isNominal_103 : decode cX1_isNominal 103 = .ok (.iload_n 1, 1) := by decide +kernel
theorem dX1_isNominal_104 : decode cX1_isNominal 104 = .ok (.invokevirtual 75, 3) := by decide +kernel
theorem dX1_isNominal_107 : decode cX1_isNominal 107 = .ok (.aload_n 0, 1) := by decide +kernel
theorem dX1_isNominal_108 : decode cX1_isNominal 108 = .ok (.getfield 34, 3) := by decide +kernel
theorem dX1_isNominal_111 : decode cX1_isNominal 111 = .ok (.if_icmp .ne 7, 3) := by decide +kernel
theorem dX1_isNominal_114 : decode cX1_isNominal 114 = .ok (.iconst 1, 1) := by decide +kernel
theorem dX1_isNominal_115 : decode cX1_isNominal 115 = .ok (.goto 4, 3) := by decide +kernel
theorem dX1_isNominal_118 : decode cX1_isNominal 118 = .ok (.iconst 0, 1) := by decide +kernel
theorem dX1_isNominal_119 : decode cX1_isNominal 119 = .ok (.ireturn, 1) := by decide +kernel
theorem dX2_init_0 : decode cX2_init 0 = .ok (.aload_n 0, 1) := by decide +kernel
theorem dX2_init_1 : decode cX2_init 1 = .ok (.invokespecial 3, 3) := by decide +kernel
theorem dX2_init_4 : decode cX2_init 4 = .ok (.aload_n 0, 1) := by decide +kernel
theorem dX2_init_5 : decode cX2_init 5 = .ok (.new 9, 3) := by decide +kernel
theorem dX2_init_8 : decode cX2_init 8 = .ok (.dup, 1) := by decide +kernel
theorem dX2_init_9 : decode cX2_init 9 = .ok (.invokespecial 11, 3) := by decide +kernel
theorem dX2_init_12 : decode cX2_init 12 = .ok (.putfield 12, 3) := by decide +kernel
theorem dX2_init_15 : decode cX2_init 15 = .ok (.aload_n 0, 1) := by decide +kernel
theorem dX2_init_16 : decode cX2_init 16 = .ok (.new 16, 3) := by decide +kernel
theorem dX2_init_19 : decode cX2_init 19 = .ok (.dup, 1) := by decide +kernel
theorem dX2_init_20 : decode cX2_init 20 = .ok (.invokespecial 18, 3) := by decide +kernel
theorem dX2_init_23 : decode cX2_init 23 = .ok (.putfield 19, 3) := by decide +kernel
theorem dX2_init_26 : decode cX2_init 26 = .ok (.aload_n 0, 1) := by decide +kernel
theorem dX2_init_27 : decode cX2_init 27 = .ok (.iconst 0, 1) := by decide +kernel
theorem dX2_init_28 : decode cX2_init 28 = .ok (.putfield 23, 3) := by decide +kernel
theorem dX2_init_31 : decode cX2_init 31 = .ok (.aload_n 0, 1) := by decide +kernel
theorem dX2_init_32 : decode cX2_init 32 = .ok (.sipush 720, 3) := by decide +kernel
theorem dX2_init_35 : decode cX2_init 35 = .ok (.newarray .int, 2) := by decide +kernel
theorem dX2_init_37 : decode cX2_init 37 = .ok (.putfield 27, 3) := by decide +kernel
theorem dX2_init_40 : decode cX2_init 40 = .ok (.return_, 1) := by decide +kernel
theorem dX2_holiday_0 : decode cX2_holiday 0 = .ok (.iload_n 1, 1) := by decide +kernel
theorem dX2_holiday_1 : decode cX2_holiday 1 = .ok (.invokestatic 31, 3) := by decide +kernel
theorem dX2_holiday_4 : decode cX2_holiday 4 = .ok (.aload_n 0, 1) := by decide +kernel
theorem dX2_holiday_5 : decode cX2_holiday 5 = .ok (.getfield 12, 3) := by decide +kernel
theorem dX2_holiday_8 : decode cX2_holiday 8 = .ok (.iload_n 1, 1) := by decide +kernel
theorem dX2_holiday_9 : decode cX2_holiday 9 = .ok (.invokevirtual 35, 3) := by decide +kernel
theorem dX2_holiday_12 : decode cX2_holiday 12 = .ok (.istore_n 2, 1) := by decide +kernel
theorem dX2_holiday_13 : decode cX2_holiday 13 = .ok (.iconst 0, 1) := by decide +kernel
theorem dX2_holiday_14 : decode cX2_holiday 14 = .ok (.istore_n 3, 1) := by decide +kernel
theorem dX2_holiday_15 : decode cX2_holiday 15 = .ok (.iload_n 3, 1) := by decide +kernel
theorem dX2_holiday_16 : decode cX2_holiday 16 = .ok (.aload_n 0, 1) := by decide +kernel
theorem dX2_holiday_17 : decode cX2_holiday 17 = .ok (.getfield 19, 3) := by decide +kernel
theorem dX2_holiday_20 : decode cX2_holiday 20 = .ok (.invokevirtual 39, 3) := by decide +kernel
theorem dX2_holiday_23 : decode cX2_holiday 23 = .ok (.if_icmp .ge 27, 3) := by decide +kernel
theorem dX2_holiday_26 : decode cX2_holiday 26 = .ok (.aload_n 0, 1) := by decide +kernel
theorem dX2_holiday_27 : decode cX2_holiday 27 = .ok (.getfield 19, 3) := by decide +kernel
theorem dX2_holiday_30 : decode cX2_holiday 30 = .ok (.iload_n 3, 1) := by decide +kernel
theorem dX2_holiday_31 : decode cX2_holiday 31 = .ok (.invokevirtual 43, 3) := by decide +kernel
theorem dX2_holiday_34 : decode cX2_holiday 34 = .ok (.checkcast 47, 3) := by decide +kernel
theorem dX2_holiday_37 : decode cX2_holiday 37 = .ok (.aload_n 0, 1) := by decide +kernel
theorem dX2_holiday_38 : decode cX2_holiday 38 = .ok (.getfield 12, 3) := by decide +kernel
theorem dX2_holiday_41 : decode cX2_holiday 41 = .ok (.invokevirtual 49, 3) := by decide +kernel
theorem dX2_holiday_44 : decode cX2_holiday 44 = .ok (.iinc 3 1, 3) := by decide +kernel
theorem dX2_holiday_47 : decode cX2_holiday 47 = .ok (.goto (-32), 3) := by decide +kernel
theorem dX2_holiday_50 : decode cX2_holiday 50 = .ok (.iload_n 2, 1) := by decide +kernel
theorem dX2_holiday_51 : decode cX2_holiday 51 = .ok (.ireturn, 1) := by decide +kernel
theorem dX2_isWorking_0 : decode cX2_isWorking 0 = .ok (.iload_n 1, 1) := by decide +kernel
theorem dX2_isWorking_1 : decode cX2_isWorking 1 = .ok (.invokestatic 31, 3) := by decide +kernel
theorem dX2_isWorking_4 : decode cX2_isWorking 4 = .ok (.aload_n 0, 1) := by decide +kernel
theorem dX2_isWorking_5 : decode cX2_isWorking 5 = .ok (.getfield 12, 3) := by decide +kernel
theorem dX2_isWorking_8 : decode cX2_isWorking 8 = .ok (.iload_n 1, 1) := by decide +kernel
theorem dX2_isWorking_9 : decode cX2_isWorking 9 = .ok (.invokevirtual 53, 3) := by decide +kernel
theorem dX2_isWorking_12 : decode cX2_isWorking 12 = .ok (.ireturn, 1) := by decide +kernel
theorem dX2_workingDays_0 : decode cX2_workingDays 0 = .ok (.iload_n 1, 1) := by decide +kernel
theorem dX2_workingDays_1 : decode cX2_workingDays 1 = .ok (.iload_n 2, 1) := by decide +kernel
theorem dX2_workingDays_2 : decode cX2_workingDays 2 = .ok (.invokestatic 56, 3) := by decide +kernel
theorem dX2_workingDays_5 : decode cX2_workingDays 5 = .ok (.iconst 0, 1) := by decide +kernel
theorem dX2_workingDays_6 : decode cX2_workingDays 6 = .ok (.istore_n 3, 1) := by decide +kernel
theorem dX2_workingDays_7 : decode cX2_workingDays 7 = .ok (.iload_n 1, 1) := by decide +kernel
theorem dX2_workingDays_8 : decode cX2_workingDays 8 = .ok (.istore 4, 2) := by decide +kernel
theorem dX2_workingDays_10 : decode cX2_workingDays 10 = .ok (.iload 4, 2) := by decide +kernel
theorem dX2_workingDays_12 : decode cX2_workingDays 12 = .ok (.iload_n 2, 1) := by decide +kernel
theorem dX2_workingDays_13 : decode cX2_workingDays 13 = .ok (.if_icmp .gt 24, 3) := by decide +kernel
theorem dX2_workingDays_16 : decode cX2_workingDays 16 = .ok (.aload_n 0, 1) := by decide +kernel
theorem dX2_workingDays_17 : decode cX2_workingDays 17 = .ok (.getfield 12, 3) := by decide +kernel
theorem dX2_workingDays_20 : decode cX2_workingDays 20 = .ok (.iload 4, 2) := by decide +kernel
theorem dX2_workingDays_22 : decode cX2_workingDays 22 = .ok (.invokevirtual 53, 3) := by decide +kernel
theorem dX2_workingDays_25 : decode cX2_workingDays 25 = .ok (.ifCond .eq 6, 3) := by decide +kernel
theorem dX2_workingDays_28 : decode cX2_workingDays 28 = .ok (.iinc 3 1, 3) := by decide +kernel
theorem dX2_workingDays_31 : decode cX2_workingDays 31 = .ok (.iinc 4 1, 3) := by decide +kernel
theorem dX2_workingDays_34 : decode cX2_workingDays 34 = .ok (.goto (-24), 3) := by decide +kernel
theorem dX2_workingDays_37 : decode cX2_workingDays 37 = .ok (.iload_n 3, 1) := by decide +kernel
theorem dX2_workingDays_38 : decode cX2_workingDays 38 = .ok (.ireturn, 1) := by decide +kernel
theorem dX2_pass_0 : decode cX2_pass 0 = .ok (.iload_n 1, 1) := by decide +kernel
theorem dX2_pass_1 : decode cX2_pass 1 = .ok (.iconst 1, 1) := by decide +kernel
theorem dX2_pass_2 : decode cX2_pass 2 = .ok (.bipush 100, 2) := by decide +kernel
theorem dX2_pass_4 : decode cX2_pass 4 = .ok (.invokestatic 60, 3) := by decide +kernel
theorem dX2_pass_7 : decode cX2_pass 7 = .ok (.aload_n 0, 1) := by decide +kernel
theorem dX2_pass_8 : decode cX2_pass 8 = .ok (.getfield 23, 3) := by decide +kernel
theorem dX2_pass_11 : decode cX2_pass 11 = .ok (.iload_n 1, 1) := by decide +kernel
theorem dX2_pass_12 : decode cX2_pass 12 = .ok (.iadd, 1) := by decide +kernel
theorem dX2_pass_13 : decode cX2_pass 13 = .ok (.sipush 720, 3) := by decide +kernel
theorem dX2_pass_16 : decode cX2_pass 16 = .ok (.if_icmp .lt 13, 3) := by decide +kernel
theorem dX2_pass_19 : decode cX2_pass 19 = .ok (.new 64, 3) := by decide +kernel
theorem dX2_pass_22 : decode cX2_pass 22 = .ok (.dup, 1) := by decide +kernel
theorem dX2_pass_23 : decode cX2_pass 23 = .ok (.ldc 66, 2) := by decide +kernel
theorem dX2_pass_25 : decode cX2_pass 25 = .ok (.invokespecial 68, 3) := by decide +kernel
theorem dX2_pass_28 : decode cX2_pass 28 = .ok (.athrow, 1) := by decide +kernel
theorem dX2_pass_29 : decode cX2_pass 29 = .ok (.aload_n 0, 1) := by decide +kernel
theorem dX2_pass_30 : decode cX2_pass 30 = .ok (.dup, 1) := by decide +kernel
theorem dX2_pass_31 : decode cX2_pass 31 = .ok (.getfield 23, 3) := by decide +kernel
theorem dX2_pass_34 : decode cX2_pass 34 = .ok (.iload_n 1, 1) := by decide +kernel
theorem dX2_pass_35 : decode cX2_pass 35 = .ok (.iadd, 1) := by decide +kernel
theorem dX2_pass_36 : decode cX2_pass 36 = .ok (.putfield 23, 3) := by decide +kernel
theorem dX2_pass_39 : decode cX2_pass 39 = .ok (.aload_n 0, 1) := by decide +kernel
theorem dX2_pass_40 : decode cX2_pass 40 = .ok (.getfield 23, 3) := by decide +kernel
theorem dX2_pass_43 : decode cX2_pass 43 = .ok (.ireturn, 1) := by decide +kernel
theorem dX2_today_0 : decode cX2_today 0 = .ok (.aload_n 0, 1) := by decide +kernel
theorem dX2_today_1 : decode cX2_today 1 = .ok (.getfield 23, 3) := by decide +kernel
theorem dX2_today_4 : decode cX2_today 4 = .ok (.ireturn, 1) := by decide +kernel
theorem dX2_addRule_0 : decode cX2_addRule 0 = .ok (.iload 4, 2) := by decide +kernel
theorem dX2_addRule_2 : decode cX2_addRule 2 = .ok (.invokestatic 31, 3) := by decide +kernel
theorem dX2_addRule_5 : decode cX2_addRule 5 = .ok (.iload_n 1, 1) := by decide +kernel
theorem dX2_addRule_6 : decode cX2_addRule 6 = .ok (.iload_n 2, 1) := by decide +kernel
theorem dX2_addRule_7 : decode cX2_addRule 7 = .ok (.invokestatic 71, 3) := by decide +kernel
theorem dX2_addRule_10 : decode cX2_addRule 10 = .ok (.iload_n 3, 1) := by decide +kernel
theorem dX2_addRule_11 : decode cX2_addRule 11 = .ok (.invokestatic 74, 3) := by decide +kernel
theorem dX2_addRule_14 : decode cX2_addRule 14 = .ok (.iload 5, 2) := by decide +kernel
theorem dX2_addRule_16 : decode cX2_addRule 16 = .ok (.iconst 1, 1) := by decide +kernel
theorem dX2_addRule_17 : decode cX2_addRule 17 = .ok (.bipush 9, 2) := by decide +kernel
theorem dX2_addRule_19 : decode cX2_addRule 19 = .ok (.invokestatic 60, 3) := by decide +kernel
theorem dX2_addRule_22 : decode cX2_addRule 22 = .ok (.iload 6, 2) := by decide +kernel
theorem dX2_addRule_24 : decode cX2_addRule 24 = .ok (.iconst 0, 1) := by decide +kernel
theorem dX2_addRule_25 : decode cX2_addRule 25 = .ok (.bipush 99, 2) := by decide +kernel
theorem dX2_addRule_27 : decode cX2_addRule 27 = .ok (.invokestatic 60, 3) := by decide +kernel
theorem dX2_addRule_30 : decode cX2_addRule 30 = .ok (.aload_n 0, 1) := by decide +kernel
theorem dX2_addRule_31 : decode cX2_addRule 31 = .ok (.getfield 19, 3) := by decide +kernel
theorem dX2_addRule_34 : decode cX2_addRule 34 = .ok (.invokevirtual 39, 3) := by decide +kernel
theorem dX2_addRule_37 : decode cX2_addRule 37 = .ok (.bipush 8, 2) := by decide +kernel
theorem dX2_addRule_39 : decode cX2_addRule 39 = .ok (.if_icmp .lt 13, 3) := by decide +kernel
theorem dX2_addRule_42 : decode cX2_addRule 42 = .ok (.new 64, 3) := by decide +kernel
theorem dX2_addRule_45 : decode cX2_addRule 45 = .ok (.dup, 1) := by decide +kernel
theorem dX2_addRule_46 : decode cX2_addRule 46 = .ok (.ldc 77, 2) := by decide +kernel
theorem dX2_addRule_48 : decode cX2_addRule 48 = .ok (.invokespecial 68, 3) := by decide +kernel
theorem dX2_addRule_51 : decode cX2_addRule 51 = .ok (.athrow, 1) := by decide +kernel
theorem dX2_addRule_52 : decode cX2_addRule 52 = .ok (.new 47, 3) := by decide +kernel
theorem dX2_addRule_55 : decode cX2_addRule 55 = .ok (.dup, 1) := by decide +kernel
theorem dX2_addRule_56 : decode cX2_addRule 56 = .ok (.iload_n 1, 1) := by decide +kernel
theorem dX2_addRule_57 : decode cX2_addRule 57 = .ok (.iload_n 2, 1) := by decide +kernel
theorem dX2_addRule_58 : decode cX2_addRule 58 = .ok (.iload_n 3, 1) := by decide +kernel
theorem dX2_addRule_59 : decode cX2_addRule 59 = .ok (.iload 4, 2) := by decide +kernel
theorem dX2_addRule_61 : decode cX2_addRule 61 = .ok (.iload 5, 2) := by decide +kernel
theorem dX2_addRule_63 : decode cX2_addRule 63 = .ok (.iload 6, 2) := by decide +kernel
theorem dX2_addRule_65 : decode cX2_addRule 65 = .ok (.invokespecial 79, 3) := by decide +kernel
theorem dX2_addRule_68 : decode cX2_addRule 68 = .ok (.astore 7, 2) := by decide +kernel
theorem dX2_addRule_70 : decode cX2_addRule 70 = .ok (.aload 7, 2) := by decide +kernel
theorem dX2_addRule_72 : decode cX2_addRule 72 = .ok (.aload_n 0, 1) := by decide +kernel
theorem dX2_addRule_73 : decode cX2_addRule 73 = .ok (.getfield 12, 3) := by decide +kernel
theorem dX2_addRule_76 : decode cX2_addRule 76 = .ok (.invokevirtual 49, 3) := by decide +kernel
theorem dX2_addRule_79 : decode cX2_addRule 79 = .ok (.aload_n 0, 1) := by decide +kernel
theorem dX2_addRule_80 : decode cX2_addRule 80 = .ok (.getfield 19, 3) := by decide +kernel
theorem dX2_addRule_83 : decode cX2_addRule 83 = .ok (.aload 7, 2) := by decide +kernel
theorem dX2_addRule_85 : decode cX2_addRule 85 = .ok (.invokevirtual 82, 3) := by decide +kernel
theorem dX2_addRule_88 : decode cX2_addRule 88 = .ok (.pop, 1) := by decide +kernel
theorem dX2_addRule_89 : decode cX2_addRule 89 = .ok (.aload_n 0, 1) := by decide +kernel
theorem dX2_addRule_90 : decode cX2_addRule 90 = .ok (.getfield 19, 3) := by decide +kernel
theorem dX2_addRule_93 : decode cX2_addRule 93 = .ok (.invokevirtual 39, 3) := by decide +kernel
theorem dX2_addRule_96 : decode cX2_addRule 96 = .ok (.iconst 1, 1) := by decide +kernel
theorem dX2_addRule_97 : decode cX2_addRule 97 = .ok (.isub, 1) := by decide +kernel
theorem dX2_addRule_98 : decode cX2_addRule 98 = .ok (.ireturn, 1) := by decide +kernel
theorem dX2_setShift_0 : decode cX2_setShift 0 = .ok (.aload_n 0, 1) := by decide +kernel
theorem dX2_setShift_1 : decode cX2_setShift 1 = .ok (.iload_n 1, 1) := by decide +kernel
theorem dX2_setShift_2 : decode cX2_setShift 2 = .ok (.invokevirtual 86, 3) := by decide +kernel
theorem dX2_setShift_5 : decode cX2_setShift 5 = .ok (.astore_n 3, 1) := by decide +kernel
theorem dX2_setShift_6 : decode cX2_setShift 6 = .ok (.iload_n 2, 1) := by decide +kernel
theorem dX2_setShift_7 : decode cX2_setShift 7 = .ok (.invokestatic 74, 3) := by decide +kernel
theorem dX2_setShift_10 : decode cX2_setShift 10 = .ok (.aload_n 3, 1) := by decide +kernel
theorem dX2_setShift_11 : decode cX2_setShift 11 = .ok (.getfield 90, 3) := by decide +kernel
theorem dX2_setShift_14 : decode cX2_setShift 14 = .ok (.istore 4, 2) := by decide +kernel
theorem dX2_setShift_16 : decode cX2_setShift 16 = .ok (.aload_n 3, 1) := by decide +kernel
theorem dX2_setShift_17 : decode cX2_setShift 17 = .ok (.iload_n 2, 1) := by decide +kernel
theorem dX2_setShift_18 : decode cX2_setShift 18 = .ok (.putfield 90, 3) := by decide +kernel
theorem dX2_setShift_21 : decode cX2_setShift 21 = .ok (.aload_n 3, 1) := by decide +kernel
theorem dX2_setShift_22 : decode cX2_setShift 22 = .ok (.aload_n 0, 1) := by decide +kernel
theorem dX2_setShift_23 : decode cX2_setShift 23 = .ok (.getfield 12, 3) := by decide +kernel
theorem dX2_setShift_26 : decode cX2_setShift 26 = .ok (.invokevirtual 49, 3) := by decide +kernel
theorem dX2_setShift_29 : decode cX2_setShift 29 = .ok (.iload 4, 2) := by decide +kernel
theorem dX2_setShift_31 : decode cX2_setShift 31 = .ok (.ireturn, 1) := by decide +kernel
theorem dX2_require_0 : decode cX2_require 0 = .ok (.aload_n 0, 1) := by decide +kernel
theorem dX2_require_1 : decode cX2_require 1 = .ok (.iload_n 1, 1) := by decide +kernel
theorem dX2_require_2 : decode cX2_require 2 = .ok (.invokevirtual 86, 3) := by decide +kernel
theorem dX2_require_5 : decode cX2_require 5 = .ok (.astore_n 3, 1) := by decide +kernel
theorem dX2_require_6 : decode cX2_require 6 = .ok (.aload_n 0, 1) := by decide +kernel
theorem dX2_require_7 : decode cX2_require 7 = .ok (.iload_n 2, 1) := by decide +kernel
theorem dX2_require_8 : decode cX2_require 8 = .ok (.invokevirtual 86, 3) := by decide +kernel
theorem dX2_require_11 : decode cX2_require 11 = .ok (.astore 4, 2) := by decide +kernel
theorem dX2_require_13 : decode cX2_require 13 = .ok (.iload_n 1, 1) := by decide +kernel
theorem dX2_require_14 : decode cX2_require 14 = .ok (.iload_n 2, 1) := by decide +kernel
theorem dX2_require_15 : decode cX2_require 15 = .ok (.if_icmp .eq 12, 3) := by decide +kernel
theorem dX2_require_18 : decode cX2_require 18 = .ok (.aload 4, 2) := by decide +kernel
theorem dX2_require_20 : decode cX2_require 20 = .ok (.iload_n 1, 1) := by decide +kernel
theorem dX2_require_21 : decode cX2_require 21 = .ok (.invokevirtual 93, 3) := by decide +kernel
theorem dX2_require_24 : decode cX2_require 24 = .ok (.ifCond .eq 13, 3) := by decide +kernel
theorem dX2_require_27 : decode cX2_require 27 = .ok (.new 64, 3) := by decide +kernel
theorem dX2_require_30 : decode cX2_require 30 = .ok (.dup, 1) := by decide +kernel
theorem dX2_require_31 : decode cX2_require 31 = .ok (.ldc 96, 2) := by decide +kernel
theorem dX2_require_33 : decode cX2_require 33 = .ok (.invokespecial 68, 3) := by decide +kernel
theorem dX2_require_36 : decode cX2_require 36 = .ok (.athrow, 1) := by decide +kernel
theorem dX2_require_37 : decode cX2_require 37 = .ok (.aload_n 3, 1) := by decide +kernel
theorem dX2_require_38 : decode cX2_require 38 = .ok (.iload_n 2, 1) := by decide +kernel
theorem dX2_require_39 : decode cX2_require 39 = .ok (.invokevirtual 98, 3) := by decide +kernel
theorem dX2_require_42 : decode cX2_require 42 = .ok (.ifCond .eq 5, 3) := by decide +kernel
theorem dX2_require_45 : decode cX2_require 45 = .ok (.iconst 0, 1) := by decide +kernel
theorem dX2_require_46 : decode cX2_require 46 = .ok (.ireturn, 1) := by decide +kernel
theorem dX2_require_47 : decode cX2_require 47 = .ok (.aload_n 3, 1) := by decide +kernel
theorem dX2_require_48 : decode cX2_require 48 = .ok (.dup, 1) := by decide +kernel
theorem dX2_require_49 : decode cX2_require 49 = .ok (.getfield 101, 3) := by decide +kernel
theorem dX2_require_52 : decode cX2_require 52 = .ok (.iconst 1, 1) := by decide +kernel
theorem dX2_require_53 : decode cX2_require 53 = .ok (.iload_n 2, 1) := by decide +kernel
theorem dX2_require_54 : decode cX2_require 54 = .ok (.ishl, 1) := by decide +kernel
theorem dX2_require_55 : decode cX2_require 55 = .ok (.ior, 1) := by decide +kernel
theorem dX2_require_56 : decode cX2_require 56 = .ok (.putfield 101, 3) := by decide +kernel
theorem dX2_require_59 : decode cX2_require 59 = .ok (.aload_n 0, 1) := by decide +kernel
theorem dX2_require_60 : decode cX2_require 60 = .ok (.iload_n 1, 1) := by decide +kernel
theorem dX2_require_61 : decode cX2_require 61 = .ok (.aload 4, 2) := by decide +kernel
theorem dX2_require_63 : decode cX2_require 63 = .ok (.getfield 104, 3) := by decide +kernel
theorem dX2_require_66 : decode cX2_require 66 = .ok (.iconst 1, 1) := by decide +kernel
theorem dX2_require_67 : decode cX2_require 67 = .ok (.iload_n 2, 1) := by decide +kernel
theorem dX2_require_68 : decode cX2_require 68 = .ok (.ishl, 1) := by decide +kernel
theorem dX2_require_69 : decode cX2_require 69 = .ok (.ior, 1) := by decide +kernel
theorem dX2_require_70 : decode cX2_require 70 = .ok (.invokevirtual 107, 3) := by decide +kernel
theorem dX2_require_73 : decode cX2_require 73 = .ok (.iconst 1, 1) := by decide +kernel
theorem dX2_require_74 : decode cX2_require 74 = .ok (.ireturn, 1) := by decide +kernel
theorem dX2_rules_0 : decode cX2_rules 0 = .ok (.aload_n 0, 1) := by decide +kernel
theorem dX2_rules_1 : decode cX2_rules 1 = .ok (.getfield 19, 3) := by decide +kernel
theorem dX2_rules_4 : decode cX2_rules 4 = .ok (.invokevirtual 39, 3) := by decide +kernel
theorem dX2_rules_7 : decode cX2_rules 7 = .ok (.ireturn, 1) := by decide +kernel
theorem dX2_dueDay_0 : decode cX2_dueDay 0 = .ok (.aload_n 0, 1) := by decide +kernel
theorem dX2_dueDay_1 : decode cX2_dueDay 1 = .ok (.iload_n 1, 1) := by decide +kernel
theorem dX2_dueDay_2 : decode cX2_dueDay 2 = .ok (.invokevirtual 86, 3) := by decide +kernel
theorem dX2_dueDay_5 : decode cX2_dueDay 5 = .ok (.astore_n 3, 1) := by decide +kernel
theorem dX2_dueDay_6 : decode cX2_dueDay 6 = .ok (.iload_n 2, 1) := by decide +kernel
theorem dX2_dueDay_7 : decode cX2_dueDay 7 = .ok (.invokestatic 110, 3) := by decide +kernel
theorem dX2_dueDay_10 : decode cX2_dueDay 10 = .ok (.aload_n 3, 1) := by decide +kernel
theorem dX2_dueDay_11 : decode cX2_dueDay 11 = .ok (.iload_n 2, 1) := by decide +kernel
theorem dX2_dueDay_12 : decode cX2_dueDay 12 = .ok (.invokevirtual 113, 3) := by decide +kernel
theorem dX2_dueDay_15 : decode cX2_dueDay 15 = .ok (.ireturn, 1) := by decide +kernel
theorem dX2_duties_0 : decode cX2_duties 0 = .ok (.aload_n 0, 1) := by decide +kernel
theorem dX2_duties_1 : decode cX2_duties 1 = .ok (.iload_n 1, 1) := by decide +kernel
theorem dX2_duties_2 : decode cX2_duties 2 = .ok (.invokevirtual 86, 3) := by decide +kernel
theorem dX2_duties_5 : decode cX2_duties 5 = .ok (.sipush 720, 3) := by decide +kernel
theorem dX2_duties_8 : decode cX2_duties 8 = .ok (.invokevirtual 117, 3) := by decide +kernel
theorem dX2_duties_11 : decode cX2_duties 11 = .ok (.ireturn, 1) := by decide +kernel
theorem dX2_nextDue_0 : decode cX2_nextDue 0 = .ok (.aload_n 0, 1) := by decide +kernel
theorem dX2_nextDue_1 : decode cX2_nextDue 1 = .ok (.iload_n 1, 1) := by decide +kernel
theorem dX2_nextDue_2 : decode cX2_nextDue 2 = .ok (.invokevirtual 86, 3) := by decide +kernel
theorem dX2_nextDue_5 : decode cX2_nextDue 5 = .ok (.astore_n 3, 1) := by decide +kernel
theorem dX2_nextDue_6 : decode cX2_nextDue 6 = .ok (.iload_n 2, 1) := by decide +kernel
theorem dX2_nextDue_7 : decode cX2_nextDue 7 = .ok (.invokestatic 31, 3) := by decide +kernel
theorem dX2_nextDue_10 : decode cX2_nextDue 10 = .ok (.aload_n 3, 1) := by decide +kernel
theorem dX2_nextDue_11 : decode cX2_nextDue 11 = .ok (.iload_n 2, 1) := by decide +kernel
theorem dX2_nextDue_12 : decode cX2_nextDue 12 = .ok (.invokevirtual 120, 3) := by decide +kernel
theorem dX2_nextDue_15 : decode cX2_nextDue 15 = .ok (.ireturn, 1) := by decide +kernel
theorem dX2_nextDueByWalking_0 : decode cX2_nextDueByWalking 0 = .ok (.aload_n 0, 1) := by decide +kernel
theorem dX2_nextDueByWalking_1 : decode cX2_nextDueByWalking 1 = .ok (.iload_n 1, 1) := by decide +kernel
theorem dX2_nextDueByWalking_2 : decode cX2_nextDueByWalking 2 = .ok (.invokevirtual 86, 3) := by decide +kernel
theorem dX2_nextDueByWalking_5 : decode cX2_nextDueByWalking 5 = .ok (.astore_n 3, 1) := by decide +kernel
theorem dX2_nextDueByWalking_6 : decode cX2_nextDueByWalking 6 = .ok (.iload_n 2, 1) := by decide +kernel
theorem dX2_nextDueByWalking_7 : decode cX2_nextDueByWalking 7 = .ok (.invokestatic 31, 3) := by decide +kernel
theorem dX2_nextDueByWalking_10 : decode cX2_nextDueByWalking 10 = .ok (.aload_n 3, 1) := by decide +kernel
theorem dX2_nextDueByWalking_11 : decode cX2_nextDueByWalking 11 = .ok (.iload_n 2, 1) := by decide +kernel
theorem dX2_nextDueByWalking_12 : decode cX2_nextDueByWalking 12 = .ok (.aload_n 0, 1) := by decide +kernel
theorem dX2_nextDueByWalking_13 : decode cX2_nextDueByWalking 13 = .ok (.getfield 12, 3) := by decide +kernel
theorem dX2_nextDueByWalking_16 : decode cX2_nextDueByWalking 16 = .ok (.invokevirtual 123, 3) := by decide +kernel
theorem dX2_nextDueByWalking_19 : decode cX2_nextDueByWalking 19 = .ok (.ireturn, 1) := by decide +kernel
theorem dX2_upcoming_0 : decode cX2_upcoming 0 = .ok (.iload_n 1, 1) := by decide +kernel
theorem dX2_upcoming_1 : decode cX2_upcoming 1 = .ok (.invokestatic 31, 3) := by decide +kernel
theorem dX2_upcoming_4 : decode cX2_upcoming 4 = .ok (.iload_n 2, 1) := by decide +kernel
theorem dX2_upcoming_5 : decode cX2_upcoming 5 = .ok (.invokestatic 110, 3) := by decide +kernel
theorem dX2_upcoming_8 : decode cX2_upcoming 8 = .ok (.iconst 0, 1) := by decide +kernel
theorem dX2_upcoming_9 : decode cX2_upcoming 9 = .ok (.istore_n 3, 1) := by decide +kernel
theorem dX2_upcoming_10 : decode cX2_upcoming 10 = .ok (.iload_n 1, 1) := by decide +kernel
theorem dX2_upcoming_11 : decode cX2_upcoming 11 = .ok (.istore 4, 2) := by decide +kernel
theorem dX2_upcoming_13 : decode cX2_upcoming 13 = .ok (.iload 4, 2) := by decide +kernel
theorem dX2_upcoming_15 : decode cX2_upcoming 15 = .ok (.sipush 720, 3) := by decide +kernel
theorem dX2_upcoming_18 : decode cX2_upcoming 18 = .ok (.if_icmp .ge 67, 3) := by decide +kernel
theorem dX2_upcoming_21 : decode cX2_upcoming 21 = .ok (.iconst 0, 1) := by decide +kernel
theorem dX2_upcoming_22 : decode cX2_upcoming 22 = .ok (.istore 5, 2) := by decide +kernel
theorem dX2_upcoming_24 : decode cX2_upcoming 24 = .ok (.iload 5, 2) := by decide +kernel
theorem dX2_upcoming_26 : decode cX2_upcoming 26 = .ok (.aload_n 0, 1) := by decide +kernel
theorem dX2_upcoming_27 : decode cX2_upcoming 27 = .ok (.getfield 19, 3) := by decide +kernel
theorem dX2_upcoming_30 : decode cX2_upcoming 30 = .ok (.invokevirtual 39, 3) := by decide +kernel
theorem dX2_upcoming_33 : decode cX2_upcoming 33 = .ok (.if_icmp .ge 46, 3) := by decide +kernel
theorem dX2_upcoming_36 : decode cX2_upcoming 36 = .ok (.aload_n 0, 1) := by decide +kernel
theorem dX2_upcoming_37 : decode cX2_upcoming 37 = .ok (.getfield 19, 3) := by decide +kernel
theorem dX2_upcoming_40 : decode cX2_upcoming 40 = .ok (.iload 5, 2) := by decide +kernel
theorem dX2_upcoming_42 : decode cX2_upcoming 42 = .ok (.invokevirtual 43, 3) := by decide +kernel
theorem dX2_upcoming_45 : decode cX2_upcoming 45 = .ok (.checkcast 47, 3) := by decide +kernel
theorem dX2_upcoming_48 : decode cX2_upcoming 48 = .ok (.iload 4, 2) := by decide +kernel
theorem dX2_upcoming_50 : decode cX2_upcoming 50 = .ok (.invokevirtual 127, 3) := by decide +kernel
theorem dX2_upcoming_53 : decode cX2_upcoming 53 = .ok (.ifCond .eq 20, 3) := by decide +kernel
theorem dX2_upcoming_56 : decode cX2_upcoming 56 = .ok (.iload_n 3, 1) := by decide +kernel
theorem dX2_upcoming_57 : decode cX2_upcoming 57 = .ok (.iload_n 2, 1) := by decide +kernel
theorem dX2_upcoming_58 : decode cX2_upcoming 58 = .ok (.if_icmp .ne 12, 3) := by decide +kernel
theorem dX2_upcoming_61 : decode cX2_upcoming 61 = .ok (.bipush 10, 2) := by decide +kernel
theorem dX2_upcoming_63 : decode cX2_upcoming 63 = .ok (.iload 4, 2) := by decide +kernel
theorem dX2_upcoming_65 : decode cX2_upcoming 65 = .ok (.imul, 1) := by decide +kernel
theorem dX2_upcoming_66 : decode cX2_upcoming 66 = .ok (.iload 5, 2) := by decide +kernel
theorem dX2_upcoming_68 : decode cX2_upcoming 68 = .ok (.iadd, 1) := by decide +kernel
theorem dX2_upcoming_69 : decode cX2_upcoming 69 = .ok (.ireturn, 1) := by decide +kernel
theorem dX2_upcoming_70 : decode cX2_upcoming 70 = .ok (.iinc 3 1, 3) := by decide +kernel
theorem dX2_upcoming_73 : decode cX2_upcoming 73 = .ok (.iinc 5 1, 3) := by decide +kernel
theorem dX2_upcoming_76 : decode cX2_upcoming 76 = .ok (.goto (-52), 3) := by decide +kernel
theorem dX2_upcoming_79 : decode cX2_upcoming 79 = .ok (.iinc 4 1, 3) := by decide +kernel
theorem dX2_upcoming_82 : decode cX2_upcoming 82 = .ok (.goto (-69), 3) := by decide +kernel
theorem dX2_upcoming_85 : decode cX2_upcoming 85 = .ok (.iconst (-1), 1) := by decide +kernel
theorem dX2_upcoming_86 : decode cX2_upcoming 86 = .ok (.ireturn, 1) := by decide +kernel
theorem dX2_finish_0 : decode cX2_finish 0 = .ok (.aload_n 0, 1) := by decide +kernel
theorem dX2_finish_1 : decode cX2_finish 1 = .ok (.iload_n 1, 1) := by decide +kernel
theorem dX2_finish_2 : decode cX2_finish 2 = .ok (.invokevirtual 86, 3) := by decide +kernel
theorem dX2_finish_5 : decode cX2_finish 5 = .ok (.astore_n 2, 1) := by decide +kernel
theorem dX2_finish_6 : decode cX2_finish 6 = .ok (.aload_n 2, 1) := by decide +kernel
theorem dX2_finish_7 : decode cX2_finish 7 = .ok (.invokevirtual 130, 3) := by decide +kernel
theorem dX2_finish_10 : decode cX2_finish 10 = .ok (.istore_n 3, 1) := by decide +kernel
theorem dX2_finish_11 : decode cX2_finish 11 = .ok (.iload_n 3, 1) := by decide +kernel
theorem dX2_finish_12 : decode cX2_finish 12 = .ok (.iconst (-1), 1) := by decide +kernel
theorem dX2_finish_13 : decode cX2_finish 13 = .ok (.if_icmp .ne 13, 3) := by decide +kernel
theorem dX2_finish_16 : decode cX2_finish 16 = .ok (.new 133, 3) := by decide +kernel
theorem dX2_finish_19 : decode cX2_finish 19 = .ok (.dup, 1) := by decide +kernel
theorem dX2_finish_20 : decode cX2_finish 20 = .ok (.ldc 135, 2) := by decide +kernel
theorem dX2_finish_22 : decode cX2_finish 22 = .ok (.invokespecial 137, 3) := by decide +kernel
theorem dX2_finish_25 : decode cX2_finish 25 = .ok (.athrow, 1) := by decide +kernel
theorem dX2_finish_26 : decode cX2_finish 26 = .ok (.aload_n 0, 1) := by decide +kernel
theorem dX2_finish_27 : decode cX2_finish 27 = .ok (.invokevirtual 138, 3) := by decide +kernel
theorem dX2_finish_30 : decode cX2_finish 30 = .ok (.aload_n 0, 1) := by decide +kernel
theorem dX2_finish_31 : decode cX2_finish 31 = .ok (.aload_n 2, 1) := by decide +kernel
theorem dX2_finish_32 : decode cX2_finish 32 = .ok (.invokevirtual 141, 3) := by decide +kernel
theorem dX2_finish_35 : decode cX2_finish 35 = .ok (.iconst (-1), 1) := by decide +kernel
theorem dX2_finish_36 : decode cX2_finish 36 = .ok (.if_icmp .eq 13, 3) := by decide +kernel
theorem dX2_finish_39 : decode cX2_finish 39 = .ok (.new 64, 3) := by decide +kernel
theorem dX2_finish_42 : decode cX2_finish 42 = .ok (.dup, 1) := by decide +kernel
theorem dX2_finish_43 : decode cX2_finish 43 = .ok (.ldc 145, 2) := by decide +kernel
theorem dX2_finish_45 : decode cX2_finish 45 = .ok (.invokespecial 68, 3) := by decide +kernel
theorem dX2_finish_48 : decode cX2_finish 48 = .ok (.athrow, 1) := by decide +kernel
theorem dX2_finish_49 : decode cX2_finish 49 = .ok (.aload_n 2, 1) := by decide +kernel
theorem dX2_finish_50 : decode cX2_finish 50 = .ok (.dup, 1) := by decide +kernel
theorem dX2_finish_51 : decode cX2_finish 51 = .ok (.getfield 147, 3) := by decide +kernel
theorem dX2_finish_54 : decode cX2_finish 54 = .ok (.iconst 1, 1) := by decide +kernel
theorem dX2_finish_55 : decode cX2_finish 55 = .ok (.iadd, 1) := by decide +kernel
theorem dX2_finish_56 : decode cX2_finish 56 = .ok (.putfield 147, 3) := by decide +kernel
theorem dX2_finish_59 : decode cX2_finish 59 = .ok (.aload_n 2, 1) := by decide +kernel
theorem dX2_finish_60 : decode cX2_finish 60 = .ok (.aload_n 0, 1) := by decide +kernel
theorem dX2_finish_61 : decode cX2_finish 61 = .ok (.getfield 23, 3) := by decide +kernel
theorem dX2_finish_64 : decode cX2_finish 64 = .ok (.putfield 150, 3) := by decide +kernel
theorem dX2_finish_67 : decode cX2_finish 67 = .ok (.aload_n 0, 1) := by decide +kernel
theorem dX2_finish_68 : decode cX2_finish 68 = .ok (.getfield 23, 3) := by decide +kernel
theorem dX2_finish_71 : decode cX2_finish 71 = .ok (.iload_n 3, 1) := by decide +kernel
theorem dX2_finish_72 : decode cX2_finish 72 = .ok (.isub, 1) := by decide +kernel
theorem dX2_finish_73 : decode cX2_finish 73 = .ok (.ireturn, 1) := by decide +kernel
theorem dX2_open_0 : decode cX2_open 0 = .ok (.aload_n 0, 1) := by decide +kernel
theorem dX2_open_1 : decode cX2_open 1 = .ok (.iload_n 1, 1) := by decide +kernel
theorem dX2_open_2 : decode cX2_open 2 = .ok (.invokevirtual 86, 3) := by decide +kernel
theorem dX2_open_5 : decode cX2_open 5 = .ok (.invokevirtual 130, 3) := by decide +kernel
theorem dX2_open_8 : decode cX2_open 8 = .ok (.ireturn, 1) := by decide +kernel
theorem dX2_finished_0 : decode cX2_finished 0 = .ok (.aload_n 0, 1) := by decide +kernel
theorem dX2_finished_1 : decode cX2_finished 1 = .ok (.iload_n 1, 1) := by decide +kernel
theorem dX2_finished_2 : decode cX2_finished 2 = .ok (.invokevirtual 86, 3) := by decide +kernel
theorem dX2_finished_5 : decode cX2_finished 5 = .ok (.getfield 147, 3) := by decide +kernel
theorem dX2_finished_8 : decode cX2_finished 8 = .ok (.ireturn, 1) := by decide +kernel
theorem dX2_blockedBy_0 : decode cX2_blockedBy 0 = .ok (.aload_n 0, 1) := by decide +kernel
theorem dX2_blockedBy_1 : decode cX2_blockedBy 1 = .ok (.iload_n 1, 1) := by decide +kernel
theorem dX2_blockedBy_2 : decode cX2_blockedBy 2 = .ok (.invokevirtual 86, 3) := by decide +kernel
theorem dX2_blockedBy_5 : decode cX2_blockedBy 5 = .ok (.astore_n 2, 1) := by decide +kernel
theorem dX2_blockedBy_6 : decode cX2_blockedBy 6 = .ok (.aload_n 0, 1) := by decide +kernel
theorem dX2_blockedBy_7 : decode cX2_blockedBy 7 = .ok (.invokevirtual 138, 3) := by decide +kernel
theorem dX2_blockedBy_10 : decode cX2_blockedBy 10 = .ok (.aload_n 0, 1) := by decide +kernel
theorem dX2_blockedBy_11 : decode cX2_blockedBy 11 = .ok (.aload_n 2, 1) := by decide +kernel
theorem dX2_blockedBy_12 : decode cX2_blockedBy 12 = .ok (.invokevirtual 141, 3) := by decide +kernel
theorem dX2_blockedBy_15 : decode cX2_blockedBy 15 = .ok (.ireturn, 1) := by decide +kernel
theorem dX2_overdue_0 : decode cX2_overdue 0 = .ok (.iconst 0, 1) := by decide +kernel
theorem dX2_overdue_1 : decode cX2_overdue 1 = .ok (.istore_n 1, 1) := by decide +kernel
theorem dX2_overdue_2 : decode cX2_overdue 2 = .ok (.iconst 0, 1) := by decide +kernel
theorem dX2_overdue_3 : decode cX2_overdue 3 = .ok (.istore_n 2, 1) := by decide +kernel
theorem dX2_overdue_4 : decode cX2_overdue 4 = .ok (.iload_n 2, 1) := by decide +kernel
theorem dX2_overdue_5 : decode cX2_overdue 5 = .ok (.aload_n 0, 1) := by decide +kernel
theorem dX2_overdue_6 : decode cX2_overdue 6 = .ok (.getfield 19, 3) := by decide +kernel
theorem dX2_overdue_9 : decode cX2_overdue 9 = .ok (.invokevirtual 39, 3) := by decide +kernel
theorem dX2_overdue_12 : decode cX2_overdue 12 = .ok (.if_icmp .ge 41, 3) := by decide +kernel
theorem dX2_overdue_15 : decode cX2_overdue 15 = .ok (.aload_n 0, 1) := by decide +kernel
theorem dX2_overdue_16 : decode cX2_overdue 16 = .ok (.getfield 19, 3) := by decide +kernel
theorem dX2_overdue_19 : decode cX2_overdue 19 = .ok (.iload_n 2, 1) := by decide +kernel
theorem dX2_overdue_20 : decode cX2_overdue 20 = .ok (.invokevirtual 43, 3) := by decide +kernel
theorem dX2_overdue_23 : decode cX2_overdue 23 = .ok (.checkcast 47, 3) := by decide +kernel
theorem dX2_overdue_26 : decode cX2_overdue 26 = .ok (.astore_n 3, 1) := by decide +kernel
theorem dX2_overdue_27 : decode cX2_overdue 27 = .ok (.iload_n 1, 1) := by decide +kernel
theorem dX2_overdue_28 : decode cX2_overdue 28 = .ok (.iconst 0, 1) := by decide +kernel
theorem dX2_overdue_29 : decode cX2_overdue 29 = .ok (.aload_n 3, 1) := by decide +kernel
theorem dX2_overdue_30 : decode cX2_overdue 30 = .ok (.aload_n 0, 1) := by decide +kernel
theorem dX2_overdue_31 : decode cX2_overdue 31 = .ok (.getfield 23, 3) := by decide +kernel
theorem dX2_overdue_34 : decode cX2_overdue 34 = .ok (.invokevirtual 117, 3) := by decide +kernel
theorem dX2_overdue_37 : decode cX2_overdue 37 = .ok (.aload_n 3, 1) := by decide +kernel
theorem dX2_overdue_38 : decode cX2_overdue 38 = .ok (.getfield 147, 3) := by decide +kernel
theorem dX2_overdue_41 : decode cX2_overdue 41 = .ok (.isub, 1) := by decide +kernel
theorem dX2_overdue_42 : decode cX2_overdue 42 = .ok (.invokestatic 153, 3) := by decide +kernel
theorem dX2_overdue_45 : decode cX2_overdue 45 = .ok (.iadd, 1) := by decide +kernel
theorem dX2_overdue_46 : decode cX2_overdue 46 = .ok (.istore_n 1, 1) := by decide +kernel
theorem dX2_overdue_47 : decode cX2_overdue 47 = .ok (.iinc 2 1, 3) := by decide +kernel
theorem dX2_overdue_50 : decode cX2_overdue 50 = .ok (.goto (-46), 3) := by decide +kernel
theorem dX2_overdue_53 : decode cX2_overdue 53 = .ok (.iload_n 1, 1) := by decide +kernel
theorem dX2_overdue_54 : decode cX2_overdue 54 = .ok (.ireturn, 1) := by decide +kernel
theorem dX2_order_0 : decode cX2_order 0 = .ok (.iload_n 1, 1) := by decide +kernel
theorem dX2_order_1 : decode cX2_order 1 = .ok (.invokestatic 31, 3) := by decide +kernel
theorem dX2_order_4 : decode cX2_order 4 = .ok (.iload_n 2, 1) := by decide +kernel
theorem dX2_order_5 : decode cX2_order 5 = .ok (.invokestatic 110, 3) := by decide +kernel
theorem dX2_order_8 : decode cX2_order 8 = .ok (.aload_n 0, 1) := by decide +kernel
theorem dX2_order_9 : decode cX2_order 9 = .ok (.invokevirtual 138, 3) := by decide +kernel
theorem dX2_order_12 : decode cX2_order 12 = .ok (.iconst 0, 1) := by decide +kernel
theorem dX2_order_13 : decode cX2_order 13 = .ok (.istore_n 3, 1) := by decide +kernel
theorem dX2_order_14 : decode cX2_order 14 = .ok (.iload_n 3, 1) := by decide +kernel
theorem dX2_order_15 : decode cX2_order 15 = .ok (.sipush 5760, 3) := by decide +kernel
theorem dX2_order_18 : decode cX2_order 18 = .ok (.if_icmp .ge 55, 3) := by decide +kernel
theorem dX2_order_21 : decode cX2_order 21 = .ok (.aload_n 0, 1) := by decide +kernel
theorem dX2_order_22 : decode cX2_order 22 = .ok (.iload_n 1, 1) := by decide +kernel
theorem dX2_order_23 : decode cX2_order 23 = .ok (.invokevirtual 159, 3) := by decide +kernel
theorem dX2_order_26 : decode cX2_order 26 = .ok (.istore 4, 2) := by decide +kernel
theorem dX2_order_28 : decode cX2_order 28 = .ok (.iload 4, 2) := by decide +kernel
theorem dX2_order_30 : decode cX2_order 30 = .ok (.iconst (-1), 1) := by decide +kernel
theorem dX2_order_31 : decode cX2_order 31 = .ok (.if_icmp .eq 8, 3) := by decide +kernel
theorem dX2_order_34 : decode cX2_order 34 = .ok (.iload_n 3, 1) := by decide +kernel
theorem dX2_order_35 : decode cX2_order 35 = .ok (.iload_n 2, 1) := by decide +kernel
theorem dX2_order_36 : decode cX2_order 36 = .ok (.if_icmp .ne 6, 3) := by decide +kernel
theorem dX2_order_39 : decode cX2_order 39 = .ok (.iload 4, 2) := by decide +kernel
theorem dX2_order_41 : decode cX2_order 41 = .ok (.ireturn, 1) := by decide +kernel
theorem dX2_order_42 : decode cX2_order 42 = .ok (.aload_n 0, 1) := by decide +kernel
theorem dX2_order_43 : decode cX2_order 43 = .ok (.iload 4, 2) := by decide +kernel
theorem dX2_order_45 : decode cX2_order 45 = .ok (.invokevirtual 86, 3) := by decide +kernel
theorem dX2_order_48 : decode cX2_order 48 = .ok (.astore 5, 2) := by decide +kernel
theorem dX2_order_50 : decode cX2_order 50 = .ok (.aload 5, 2) := by decide +kernel
theorem dX2_order_52 : decode cX2_order 52 = .ok (.aload 5, 2) := by decide +kernel
theorem dX2_order_54 : decode cX2_order 54 = .ok (.aload 5, 2) := by decide +kernel
theorem dX2_order_56 : decode cX2_order 56 = .ok (.getfield 162, 3) := by decide +kernel
theorem dX2_order_59 : decode cX2_order 59 = .ok (.iconst 1, 1) := by decide +kernel
theorem dX2_order_60 : decode cX2_order 60 = .ok (.iadd, 1) := by decide +kernel
theorem dX2_order_61 : decode cX2_order 61 = .ok (.invokevirtual 120, 3) := by decide +kernel
theorem dX2_order_64 : decode cX2_order 64 = .ok (.putfield 162, 3) := by decide +kernel
theorem dX2_order_67 : decode cX2_order 67 = .ok (.iinc 3 1, 3) := by decide +kernel
theorem dX2_order_70 : decode cX2_order 70 = .ok (.goto (-56), 3) := by decide +kernel
theorem dX2_order_73 : decode cX2_order 73 = .ok (.iconst (-1), 1) := by decide +kernel
theorem dX2_order_74 : decode cX2_order 74 = .ok (.ireturn, 1) := by decide +kernel
theorem dX2_isCovered_0 : decode cX2_isCovered 0 = .ok (.aload_n 0, 1) := by decide +kernel
theorem dX2_isCovered_1 : decode cX2_isCovered 1 = .ok (.iload_n 1, 1) := by decide +kernel
theorem dX2_isCovered_2 : decode cX2_isCovered 2 = .ok (.invokevirtual 86, 3) := by decide +kernel
theorem dX2_isCovered_5 : decode cX2_isCovered 5 = .ok (.astore_n 3, 1) := by decide +kernel
theorem dX2_isCovered_6 : decode cX2_isCovered 6 = .ok (.iload_n 2, 1) := by decide +kernel
theorem dX2_isCovered_7 : decode cX2_isCovered 7 = .ok (.invokestatic 31, 3) := by decide +kernel
theorem dX2_isCovered_10 : decode cX2_isCovered 10 = .ok (.aload_n 3, 1) := by decide +kernel
theorem dX2_isCovered_11 : decode cX2_isCovered 11 = .ok (.invokevirtual 165, 3) := by decide +kernel
theorem dX2_isCovered_14 : decode cX2_isCovered 14 = .ok (.ifCond .eq 23, 3) := by decide +kernel
theorem dX2_isCovered_17 : decode cX2_isCovered 17 = .ok (.iload_n 2, 1) := by decide +kernel
theorem dX2_isCovered_18 : decode cX2_isCovered 18 = .ok (.aload_n 3, 1) := by decide +kernel
theorem dX2_isCovered_19 : decode cX2_isCovered 19 = .ok (.getfield 150, 3) := by decide +kernel
theorem dX2_isCovered_22 : decode cX2_isCovered 22 = .ok (.if_icmp .lt 15, 3) := by decide +kernel
theorem dX2_isCovered_25 : decode cX2_isCovered 25 = .ok (.iload_n 2, 1) := by decide +kernel
theorem dX2_isCovered_26 : decode cX2_isCovered 26 = .ok (.aload_n 3, 1) := by decide +kernel
theorem dX2_isCovered_27 : decode cX2_isCovered 27 = .ok (.invokevirtual 169, 3) := by decide +kernel
theorem dX2_isCovered_30 : decode cX2_isCovered 30 = .ok (.if_icmp .gt 7, 3) := by decide +kernel
theorem dX2_isCovered_33 : decode cX2_isCovered 33 = .ok (.iconst 1, 1) := by decide +kernel
theorem dX2_isCovered_34 : decode cX2_isCovered 34 = .ok (.goto 4, 3) := by decide +kernel
theorem dX2_isCovered_37 : decode cX2_isCovered 37 = .ok (.iconst 0, 1) := by decide +kernel
theorem dX2_isCovered_38 : decode cX2_isCovered 38 = .ok (.ireturn, 1) := by decide +kernel
theorem dX2_lasts_0 : decode cX2_lasts 0 = .ok (.aload_n 0, 1) := by decide +kernel
theorem dX2_lasts_1 : decode cX2_lasts 1 = .ok (.iload_n 1, 1) := by decide +kernel
theorem dX2_lasts_2 : decode cX2_lasts 2 = .ok (.invokevirtual 86, 3) := by decide +kernel
theorem dX2_lasts_5 : decode cX2_lasts 5 = .ok (.astore_n 2, 1) := by decide +kernel
theorem dX2_lasts_6 : decode cX2_lasts 6 = .ok (.aload_n 2, 1) := by decide +kernel
theorem dX2_lasts_7 : decode cX2_lasts 7 = .ok (.invokevirtual 165, 3) := by decide +kernel
theorem dX2_lasts_10 : decode cX2_lasts 10 = .ok (.ifCond .ne 13, 3) := by decide +kernel
theorem dX2_lasts_13 : decode cX2_lasts 13 = .ok (.new 133, 3) := by decide +kernel
theorem dX2_lasts_16 : decode cX2_lasts 16 = .ok (.dup, 1) := by decide +kernel
theorem dX2_lasts_17 : decode cX2_lasts 17 = .ok (.ldc 172, 2) := by decide +kernel
theorem dX2_lasts_19 : decode cX2_lasts 19 = .ok (.invokespecial 137, 3) := by decide +kernel
theorem dX2_lasts_22 : decode cX2_lasts 22 = .ok (.athrow, 1) := by decide +kernel
theorem dX2_lasts_23 : decode cX2_lasts 23 = .ok (.aload_n 2, 1) := by decide +kernel
theorem dX2_lasts_24 : decode cX2_lasts 24 = .ok (.invokevirtual 169, 3) := by decide +kernel
theorem dX2_lasts_27 : decode cX2_lasts 27 = .ok (.aload_n 0, 1) := by decide +kernel
theorem dX2_lasts_28 : decode cX2_lasts 28 = .ok (.getfield 23, 3) := by decide +kernel
theorem dX2_lasts_31 : decode cX2_lasts 31 = .ok (.isub, 1) := by decide +kernel
theorem dX2_lasts_32 : decode cX2_lasts 32 = .ok (.ireturn, 1) := by decide +kernel
theorem dX2_load_0 : decode cX2_load 0 = .ok (.iload_n 1, 1) := by decide +kernel
theorem dX2_load_1 : decode cX2_load 1 = .ok (.invokestatic 31, 3) := by decide +kernel
theorem dX2_load_4 : decode cX2_load 4 = .ok (.aload_n 0, 1) := by decide +kernel
theorem dX2_load_5 : decode cX2_load 5 = .ok (.iload_n 1, 1) := by decide +kernel
theorem dX2_load_6 : decode cX2_load 6 = .ok (.invokevirtual 174, 3) := by decide +kernel
theorem dX2_load_9 : decode cX2_load 9 = .ok (.ireturn, 1) := by decide +kernel
theorem dX2_heaviest_0 : decode cX2_heaviest 0 = .ok (.iload_n 1, 1) := by decide +kernel
theorem dX2_heaviest_1 : decode cX2_heaviest 1 = .ok (.iload_n 2, 1) := by decide +kernel
theorem dX2_heaviest_2 : decode cX2_heaviest 2 = .ok (.invokestatic 56, 3) := by decide +kernel
theorem dX2_heaviest_5 : decode cX2_heaviest 5 = .ok (.iload_n 1, 1) := by decide +kernel
theorem dX2_heaviest_6 : decode cX2_heaviest 6 = .ok (.istore_n 3, 1) := by decide +kernel
theorem dX2_heaviest_7 : decode cX2_heaviest 7 = .ok (.aload_n 0, 1) := by decide +kernel
theorem dX2_heaviest_8 : decode cX2_heaviest 8 = .ok (.iload_n 1, 1) := by decide +kernel
theorem dX2_heaviest_9 : decode cX2_heaviest 9 = .ok (.invokevirtual 174, 3) := by decide +kernel
theorem dX2_heaviest_12 : decode cX2_heaviest 12 = .ok (.istore 4, 2) := by decide +kernel
theorem dX2_heaviest_14 : decode cX2_heaviest 14 = .ok (.iload_n 1, 1) := by decide +kernel
theorem dX2_heaviest_15 : decode cX2_heaviest 15 = .ok (.iconst 1, 1) := by decide +kernel
theorem dX2_heaviest_16 : decode cX2_heaviest 16 = .ok (.iadd, 1) := by decide +kernel
theorem dX2_heaviest_17 : decode cX2_heaviest 17 = .ok (.istore 5, 2) := by decide +kernel
theorem dX2_heaviest_19 : decode cX2_heaviest 19 = .ok (.iload 5, 2) := by decide +kernel
theorem dX2_heaviest_21 : decode cX2_heaviest 21 = .ok (.iload_n 2, 1) := by decide +kernel
theorem dX2_heaviest_22 : decode cX2_heaviest 22 = .ok (.if_icmp .gt 31, 3) := by decide +kernel
theorem dX2_heaviest_25 : decode cX2_heaviest 25 = .ok (.aload_n 0, 1) := by decide +kernel
theorem dX2_heaviest_26 : decode cX2_heaviest 26 = .ok (.iload 5, 2) := by decide +kernel
theorem dX2_heaviest_28 : decode cX2_heaviest 28 = .ok (.invokevirtual 174, 3) := by decide +kernel
theorem dX2_heaviest_31 : decode cX2_heaviest 31 = .ok (.istore 6, 2) := by decide +kernel
theorem dX2_heaviest_33 : decode cX2_heaviest 33 = .ok (.iload 6, 2) := by decide +kernel
theorem dX2_heaviest_35 : decode cX2_heaviest 35 = .ok (.iload 4, 2) := by decide +kernel
theorem dX2_heaviest_37 : decode cX2_heaviest 37 = .ok (.if_icmp .le 10, 3) := by decide +kernel
theorem dX2_heaviest_40 : decode cX2_heaviest 40 = .ok (.iload 5, 2) := by decide +kernel
theorem dX2_heaviest_42 : decode cX2_heaviest 42 = .ok (.istore_n 3, 1) := by decide +kernel
theorem dX2_heaviest_43 : decode cX2_heaviest 43 = .ok (.iload 6, 2) := by decide +kernel
theorem dX2_heaviest_45 : decode cX2_heaviest 45 = .ok (.istore 4, 2) := by decide +kernel
theorem dX2_heaviest_47 : decode cX2_heaviest 47 = .ok (.iinc 5 1, 3) := by decide +kernel
theorem dX2_heaviest_50 : decode cX2_heaviest 50 = .ok (.goto (-31), 3) := by decide +kernel
theorem dX2_heaviest_53 : decode cX2_heaviest 53 = .ok (.iload_n 3, 1) := by decide +kernel
theorem dX2_heaviest_54 : decode cX2_heaviest 54 = .ok (.ireturn, 1) := by decide +kernel
theorem dX2_level_0 : decode cX2_level 0 = .ok (.iload_n 1, 1) := by decide +kernel
theorem dX2_level_1 : decode cX2_level 1 = .ok (.iload_n 2, 1) := by decide +kernel
theorem dX2_level_2 : decode cX2_level 2 = .ok (.invokestatic 56, 3) := by decide +kernel
theorem dX2_level_5 : decode cX2_level 5 = .ok (.iload_n 3, 1) := by decide +kernel
theorem dX2_level_6 : decode cX2_level 6 = .ok (.iconst 1, 1) := by decide +kernel
theorem dX2_level_7 : decode cX2_level 7 = .ok (.bipush 99, 2) := by decide +kernel
theorem dX2_level_9 : decode cX2_level 9 = .ok (.invokestatic 60, 3) := by decide +kernel
theorem dX2_level_12 : decode cX2_level 12 = .ok (.aload_n 0, 1) := by decide +kernel
theorem dX2_level_13 : decode cX2_level 13 = .ok (.iload_n 1, 1) := by decide +kernel
theorem dX2_level_14 : decode cX2_level 14 = .ok (.iload_n 2, 1) := by decide +kernel
theorem dX2_level_15 : decode cX2_level 15 = .ok (.iload_n 3, 1) := by decide +kernel
theorem dX2_level_16 : decode cX2_level 16 = .ok (.invokevirtual 177, 3) := by decide +kernel
theorem dX2_level_19 : decode cX2_level 19 = .ok (.ireturn, 1) := by decide +kernel
theorem dX2_levelled_0 : decode cX2_levelled 0 = .ok (.iload 4, 2) := by decide +kernel
theorem dX2_levelled_2 : decode cX2_levelled 2 = .ok (.invokestatic 31, 3) := by decide +kernel
theorem dX2_levelled_5 : decode cX2_levelled 5 = .ok (.iload_n 1, 1) := by decide +kernel
theorem dX2_levelled_6 : decode cX2_levelled 6 = .ok (.iload_n 2, 1) := by decide +kernel
theorem dX2_levelled_7 : decode cX2_levelled 7 = .ok (.invokestatic 56, 3) := by decide +kernel
theorem dX2_levelled_10 : decode cX2_levelled 10 = .ok (.iload_n 3, 1) := by decide +kernel
theorem dX2_levelled_11 : decode cX2_levelled 11 = .ok (.iconst 1, 1) := by decide +kernel
theorem dX2_levelled_12 : decode cX2_levelled 12 = .ok (.bipush 99, 2) := by decide +kernel
theorem dX2_levelled_14 : decode cX2_levelled 14 = .ok (.invokestatic 60, 3) := by decide +kernel
theorem dX2_levelled_17 : decode cX2_levelled 17 = .ok (.aload_n 0, 1) := by decide +kernel
theorem dX2_levelled_18 : decode cX2_levelled 18 = .ok (.iload_n 1, 1) := by decide +kernel
theorem dX2_levelled_19 : decode cX2_levelled 19 = .ok (.iload_n 2, 1) := by decide +kernel
theorem dX2_levelled_20 : decode cX2_levelled 20 = .ok (.iload_n 3, 1) := by decide +kernel
theorem dX2_levelled_21 : decode cX2_levelled 21 = .ok (.invokevirtual 177, 3) := by decide +kernel
theorem dX2_levelled_24 : decode cX2_levelled 24 = .ok (.pop, 1) := by decide +kernel
theorem dX2_levelled_25 : decode cX2_levelled 25 = .ok (.aload_n 0, 1) := by decide +kernel
theorem dX2_levelled_26 : decode cX2_levelled 26 = .ok (.getfield 27, 3) := by decide +kernel
theorem dX2_levelled_29 : decode cX2_levelled 29 = .ok (.iload 4, 2) := by decide +kernel
theorem dX2_levelled_31 : decode cX2_levelled 31 = .ok (.iaload, 1) := by decide +kernel
theorem dX2_levelled_32 : decode cX2_levelled 32 = .ok (.ireturn, 1) := by decide +kernel
theorem dX2_isDay_0 : decode cX2_isDay 0 = .ok (.iload_n 0, 1) := by decide +kernel
theorem dX2_isDay_1 : decode cX2_isDay 1 = .ok (.ifCond .lt 14, 3) := by decide +kernel
theorem dX2_isDay_4 : decode cX2_isDay 4 = .ok (.iload_n 0, 1) := by decide +kernel
theorem dX2_isDay_5 : decode cX2_isDay 5 = .ok (.sipush 720, 3) := by decide +kernel
theorem dX2_isDay_8 : decode cX2_isDay 8 = .ok (.if_icmp .ge 7, 3) := by decide +kernel
theorem dX2_isDay_11 : decode cX2_isDay 11 = .ok (.iconst 1, 1) := by decide +kernel
theorem dX2_isDay_12 : decode cX2_isDay 12 = .ok (.goto 4, 3) := by decide +kernel
theorem dX2_isDay_15 : decode cX2_isDay 15 = .ok (.iconst 0, 1) := by decide +kernel
theorem dX2_isDay_16 : decode cX2_isDay 16 = .ok (.ireturn, 1) := by decide +kernel
theorem dX2_checkDay_0 : decode cX2_checkDay 0 = .ok (.iload_n 0, 1) := by decide +kernel
theorem dX2_checkDay_1 : decode cX2_checkDay 1 = .ok (.invokestatic 181, 3) := by decide +kernel
theorem dX2_checkDay_4 : decode cX2_checkDay 4 = .ok (.ifCond .ne 13, 3) := by decide +kernel
theorem dX2_checkDay_7 : decode cX2_checkDay 7 = .ok (.new 184, 3) := by decide +kernel
theorem dX2_checkDay_10 : decode cX2_checkDay 10 = .ok (.dup, 1) := by decide +kernel
theorem dX2_checkDay_11 : decode cX2_checkDay 11 = .ok (.ldc 186, 2) := by decide +kernel
theorem dX2_checkDay_13 : decode cX2_checkDay 13 = .ok (.invokespecial 188, 3) := by decide +kernel
theorem dX2_checkDay_16 : decode cX2_checkDay 16 = .ok (.athrow, 1) := by decide +kernel
theorem dX2_checkDay_17 : decode cX2_checkDay 17 = .ok (.return_, 1) := by decide +kernel
theorem dX2_checkSpan_0 : decode cX2_checkSpan 0 = .ok (.iload_n 0, 1) := by decide +kernel
theorem dX2_checkSpan_1 : decode cX2_checkSpan 1 = .ok (.invokestatic 31, 3) := by decide +kernel
theorem dX2_checkSpan_4 : decode cX2_checkSpan 4 = .ok (.iload_n 1, 1) := by decide +kernel
theorem dX2_checkSpan_5 : decode cX2_checkSpan 5 = .ok (.invokestatic 31, 3) := by decide +kernel
theorem dX2_checkSpan_8 : decode cX2_checkSpan 8 = .ok (.iload_n 1, 1) := by decide +kernel
theorem dX2_checkSpan_9 : decode cX2_checkSpan 9 = .ok (.iload_n 0, 1) := by decide +kernel
theorem dX2_checkSpan_10 : decode cX2_checkSpan 10 = .ok (.if_icmp .ge 13, 3) := by decide +kernel
theorem dX2_checkSpan_13 : decode cX2_checkSpan 13 = .ok (.new 189, 3) := by decide +kernel
theorem dX2_checkSpan_16 : decode cX2_checkSpan 16 = .ok (.dup, 1) := by decide +kernel
theorem dX2_checkSpan_17 : decode cX2_checkSpan 17 = .ok (.ldc 191, 2) := by decide +kernel
theorem dX2_checkSpan_19 : decode cX2_checkSpan 19 = .ok (.invokespecial 193, 3) := by decide +kernel
theorem dX2_checkSpan_22 : decode cX2_checkSpan 22 = .ok (.athrow, 1) := by decide +kernel
theorem dX2_checkSpan_23 : decode cX2_checkSpan 23 = .ok (.return_, 1) := by decide +kernel
theorem dX2_checkPlace_0 : decode cX2_checkPlace 0 = .ok (.iload_n 0, 1) := by decide +kernel
theorem dX2_checkPlace_1 : decode cX2_checkPlace 1 = .ok (.ifCond .ge 13, 3) := by decide +kernel
theorem dX2_checkPlace_4 : decode cX2_checkPlace 4 = .ok (.new 184, 3) := by decide +kernel
theorem dX2_checkPlace_7 : decode cX2_checkPlace 7 = .ok (.dup, 1) := by decide +kernel
theorem dX2_checkPlace_8 : decode cX2_checkPlace 8 = .ok (.ldc 194, 2) := by decide +kernel
theorem dX2_checkPlace_10 : decode cX2_checkPlace 10 = .ok (.invokespecial 188, 3) := by decide +kernel
theorem dX2_checkPlace_13 : decode cX2_checkPlace 13 = .ok (.athrow, 1) := by decide +kernel
theorem dX2_checkPlace_14 : decode cX2_checkPlace 14 = .ok (.return_, 1) := by decide +kernel
theorem dX2_checkRange_0 : decode cX2_checkRange 0 = .ok (.iload_n 0, 1) := by decide +kernel
theorem dX2_checkRange_1 : decode cX2_checkRange 1 = .ok (.iload_n 1, 1) := by decide +kernel
theorem dX2_checkRange_2 : decode cX2_checkRange 2 = .ok (.if_icmp .lt 8, 3) := by decide +kernel
theorem dX2_checkRange_5 : decode cX2_checkRange 5 = .ok (.iload_n 0, 1) := by decide +kernel
theorem dX2_checkRange_6 : decode cX2_checkRange 6 = .ok (.iload_n 2, 1) := by decide +kernel
theorem dX2_checkRange_7 : decode cX2_checkRange 7 = .ok (.if_icmp .le 13, 3) := by decide +kernel
theorem dX2_checkRange_10 : decode cX2_checkRange 10 = .ok (.new 189, 3) := by decide +kernel
theorem dX2_checkRange_13 : decode cX2_checkRange 13 = .ok (.dup, 1) := by decide +kernel
theorem dX2_checkRange_14 : decode cX2_checkRange 14 = .ok (.ldc 196, 2) := by decide +kernel
theorem dX2_checkRange_16 : decode cX2_checkRange 16 = .ok (.invokespecial 193, 3) := by decide +kernel
theorem dX2_checkRange_19 : decode cX2_checkRange 19 = .ok (.athrow, 1) := by decide +kernel
theorem dX2_checkRange_20 : decode cX2_checkRange 20 = .ok (.return_, 1) := by decide +kernel
theorem dX2_checkKind_0 : decode cX2_checkKind 0 = .ok (.iload_n 0, 1) := by decide +kernel
theorem dX2_checkKind_1 : decode cX2_checkKind 1 = .ok (.iconst 0, 1) := by decide +kernel
theorem dX2_checkKind_2 : decode cX2_checkKind 2 = .ok (.iconst 3, 1) := by decide +kernel
theorem dX2_checkKind_3 : decode cX2_checkKind 3 = .ok (.invokestatic 60, 3) := by decide +kernel
theorem dX2_checkKind_6 : decode cX2_checkKind 6 = .ok (.iload_n 0, 1) := by decide +kernel
theorem dX2_checkKind_7 : decode cX2_checkKind 7 = .ok (.ifCond .ne 13, 3) := by decide +kernel
theorem dX2_checkKind_10 : decode cX2_checkKind 10 = .ok (.iload_n 1, 1) := by decide +kernel
theorem dX2_checkKind_11 : decode cX2_checkKind 11 = .ok (.iconst 1, 1) := by decide +kernel
theorem dX2_checkKind_12 : decode cX2_checkKind 12 = .ok (.bipush 60, 2) := by decide +kernel
theorem dX2_checkKind_14 : decode cX2_checkKind 14 = .ok (.invokestatic 60, 3) := by decide +kernel
theorem dX2_checkKind_17 : decode cX2_checkKind 17 = .ok (.goto 25, 3) := by decide +kernel
theorem dX2_checkKind_20 : decode cX2_checkKind 20 = .ok (.iload_n 0, 1) := by decide +kernel
theorem dX2_checkKind_21 : decode cX2_checkKind 21 = .ok (.iconst 1, 1) := by decide +kernel
theorem dX2_checkKind_22 : decode cX2_checkKind 22 = .ok (.if_icmp .ne 13, 3) := by decide +kernel
theorem dX2_checkKind_25 : decode cX2_checkKind 25 = .ok (.iload_n 1, 1) := by decide +kernel
theorem dX2_checkKind_26 : decode cX2_checkKind 26 = .ok (.iconst 0, 1) := by decide +kernel
theorem dX2_checkKind_27 : decode cX2_checkKind 27 = .ok (.bipush 29, 2) := by decide +kernel
theorem dX2_checkKind_29 : decode cX2_checkKind 29 = .ok (.invokestatic 60, 3) := by decide +kernel
theorem dX2_checkKind_32 : decode cX2_checkKind 32 = .ok (.goto 10, 3) := by decide +kernel
theorem dX2_checkKind_35 : decode cX2_checkKind 35 = .ok (.iload_n 1, 1) := by decide +kernel
theorem dX2_checkKind_36 : decode cX2_checkKind 36 = .ok (.iconst 1, 1) := by decide +kernel
theorem dX2_checkKind_37 : decode cX2_checkKind 37 = .ok (.bipush 22, 2) := by decide +kernel
theorem dX2_checkKind_39 : decode cX2_checkKind 39 = .ok (.invokestatic 60, 3) := by decide +kernel
theorem dX2_checkKind_42 : decode cX2_checkKind 42 = .ok (.return_, 1) := by decide +kernel
theorem dX2_checkShift_0 : decode cX2_checkShift 0 = .ok (.iload_n 0, 1) := by decide +kernel
theorem dX2_checkShift_1 : decode cX2_checkShift 1 = .ok (.iconst 0, 1) := by decide +kernel
theorem dX2_checkShift_2 : decode cX2_checkShift 2 = .ok (.iconst 2, 1) := by decide +kernel
theorem dX2_checkShift_3 : decode cX2_checkShift 3 = .ok (.invokestatic 60, 3) := by decide +kernel
theorem dX2_checkShift_6 : decode cX2_checkShift 6 = .ok (.return_, 1) := by decide +kernel
theorem dX2_ruleAt_0 : decode cX2_ruleAt 0 = .ok (.iload_n 1, 1) := by decide +kernel
theorem dX2_ruleAt_1 : decode cX2_ruleAt 1 = .ok (.ifCond .lt 14, 3) := by decide +kernel
theorem dX2_ruleAt_4 : decode cX2_ruleAt 4 = .ok (.iload_n 1, 1) := by decide +kernel
theorem dX2_ruleAt_5 : decode cX2_ruleAt 5 = .ok (.aload_n 0, 1) := by decide +kernel
theorem dX2_ruleAt_6 : decode cX2_ruleAt 6 = .ok (.getfield 19, 3) := by decide +kernel
theorem dX2_ruleAt_9 : decode cX2_ruleAt 9 = .ok (.invokevirtual 39, 3) := by decide +kernel
theorem dX2_ruleAt_12 : decode cX2_ruleAt 12 = .ok (.if_icmp .lt 13, 3) := by decide +kernel
theorem dX2_ruleAt_15 : decode cX2_ruleAt 15 = .ok (.new 184, 3) := by decide +kernel
theorem dX2_ruleAt_18 : decode cX2_ruleAt 18 = .ok (.dup, 1) := by decide +kernel
theorem dX2_ruleAt_19 : decode cX2_ruleAt 19 = .ok (.ldc 198, 2) := by decide +kernel
theorem dX2_ruleAt_21 : decode cX2_ruleAt 21 = .ok (.invokespecial 188, 3) := by decide +kernel
theorem dX2_ruleAt_24 : decode cX2_ruleAt 24 = .ok (.athrow, 1) := by decide +kernel
theorem dX2_ruleAt_25 : decode cX2_ruleAt 25 = .ok (.aload_n 0, 1) := by decide +kernel
theorem dX2_ruleAt_26 : decode cX2_ruleAt 26 = .ok (.getfield 19, 3) := by decide +kernel
theorem dX2_ruleAt_29 : decode cX2_ruleAt 29 = .ok (.iload_n 1, 1) := by decide +kernel
theorem dX2_ruleAt_30 : decode cX2_ruleAt 30 = .ok (.invokevirtual 43, 3) := by decide +kernel
theorem dX2_ruleAt_33 : decode cX2_ruleAt 33 = .ok (.checkcast 47, 3) := by decide +kernel
theorem dX2_ruleAt_36 : decode cX2_ruleAt 36 = .ok (.areturn, 1) := by decide +kernel
theorem dX2_spreadNeeds_0 : decode cX2_spreadNeeds 0 = .ok (.iconst 0, 1) := by decide +kernel
theorem dX2_spreadNeeds_1 : decode cX2_spreadNeeds 1 = .ok (.istore_n 3, 1) := by decide +kernel
theorem dX2_spreadNeeds_2 : decode cX2_spreadNeeds 2 = .ok (.iload_n 3, 1) := by decide +kernel
theorem dX2_spreadNeeds_3 : decode cX2_spreadNeeds 3 = .ok (.aload_n 0, 1) := by decide +kernel
theorem dX2_spreadNeeds_4 : decode cX2_spreadNeeds 4 = .ok (.getfield 19, 3) := by decide +kernel
theorem dX2_spreadNeeds_7 : decode cX2_spreadNeeds 7 = .ok (.invokevirtual 39, 3) := by decide +kernel
theorem dX2_spreadNeeds_10 : decode cX2_spreadNeeds 10 = .ok (.if_icmp .ge 47, 3) := by decide +kernel
theorem dX2_spreadNeeds_13 : decode cX2_spreadNeeds 13 = .ok (.aload_n 0, 1) := by decide +kernel
theorem dX2_spreadNeeds_14 : decode cX2_spreadNeeds 14 = .ok (.getfield 19, 3) := by decide +kernel
theorem dX2_spreadNeeds_17 : decode cX2_spreadNeeds 17 = .ok (.iload_n 3, 1) := by decide +kernel
theorem dX2_spreadNeeds_18 : decode cX2_spreadNeeds 18 = .ok (.invokevirtual 43, 3) := by decide +kernel
theorem dX2_spreadNeeds_21 : decode cX2_spreadNeeds 21 = .ok (.checkcast 47, 3) := by decide +kernel
theorem dX2_spreadNeeds_24 : decode cX2_spreadNeeds 24 = .ok (.astore 4, 2) := by decide +kernel
theorem dX2_spreadNeeds_26 : decode cX2_spreadNeeds 26 = .ok (.iload_n 3, 1) := by decide +kernel
theorem dX2_spreadNeeds_27 : decode cX2_spreadNeeds 27 = .ok (.iload_n 1, 1) := by decide +kernel
theorem dX2_spreadNeeds_28 : decode cX2_spreadNeeds 28 = .ok (.if_icmp .eq 12, 3) := by decide +kernel
theorem dX2_spreadNeeds_31 : decode cX2_spreadNeeds 31 = .ok (.aload 4, 2) := by decide +kernel
theorem dX2_spreadNeeds_33 : decode cX2_spreadNeeds 33 = .ok (.iload_n 1, 1) := by decide +kernel
theorem dX2_spreadNeeds_34 : decode cX2_spreadNeeds 34 = .ok (.invokevirtual 93, 3) := by decide +kernel
theorem dX2_spreadNeeds_37 : decode cX2_spreadNeeds 37 = .ok (.ifCond .eq 14, 3) := by decide +kernel
theorem dX2_spreadNeeds_40 : decode cX2_spreadNeeds 40 = .ok (.aload 4, 2) := by decide +kernel
theorem dX2_spreadNeeds_42 : decode cX2_spreadNeeds 42 = .ok (.dup, 1) := by decide +kernel
theorem dX2_spreadNeeds_43 : decode cX2_spreadNeeds 43 = .ok (.getfield 104, 3) := by decide +kernel
theorem dX2_spreadNeeds_46 : decode cX2_spreadNeeds 46 = .ok (.iload_n 2, 1) := by decide +kernel
theorem dX2_spreadNeeds_47 : decode cX2_spreadNeeds 47 = .ok (.ior, 1) := by decide +kernel
theorem dX2_spreadNeeds_48 : decode cX2_spreadNeeds 48 = .ok (.putfield 104, 3) := by decide +kernel
theorem dX2_spreadNeeds_51 : decode cX2_spreadNeeds 51 = .ok (.iinc 3 1, 3) := by decide +kernel
theorem dX2_spreadNeeds_54 : decode cX2_spreadNeeds 54 = .ok (.goto (-52), 3) := by decide +kernel
theorem dX2_spreadNeeds_57 : decode cX2_spreadNeeds 57 = .ok (.return_, 1) := by decide +kernel
theorem dX2_foreseeOpenDuties_0 : decode cX2_foreseeOpenDuties 0 = .ok (.iconst 0, 1) := by decide +kernel
theorem dX2_foreseeOpenDuties_1 : decode cX2_foreseeOpenDuties 1 = .ok (.istore_n 1, 1) := by decide +kernel
theorem dX2_foreseeOpenDuties_2 : decode cX2_foreseeOpenDuties 2 = .ok (.iload_n 1, 1) := by decide +kernel
theorem dX2_foreseeOpenDuties_3 : decode cX2_foreseeOpenDuties 3 = .ok (.aload_n 0, 1) := by decide +kernel
theorem dX2_foreseeOpenDuties_4 : decode cX2_foreseeOpenDuties 4 = .ok (.getfield 19, 3) := by decide +kernel
theorem dX2_foreseeOpenDuties_7 : decode cX2_foreseeOpenDuties 7 = .ok (.invokevirtual 39, 3) := by decide +kernel
theorem dX2_foreseeOpenDuties_10 : decode cX2_foreseeOpenDuties 10 = .ok (.if_icmp .ge 29, 3) := by decide +kernel
theorem dX2_foreseeOpenDuties_13 : decode cX2_foreseeOpenDuties 13 = .ok (.aload_n 0, 1) := by decide +kernel
theorem dX2_foreseeOpenDuties_14 : decode cX2_foreseeOpenDuties 14 = .ok (.getfield 19, 3) := by decide +kernel
theorem dX2_foreseeOpenDuties_17 : decode cX2_foreseeOpenDuties 17 = .ok (.iload_n 1, 1) := by decide +kernel
theorem dX2_foreseeOpenDuties_18 : decode cX2_foreseeOpenDuties 18 = .ok (.invokevirtual 43, 3) := by decide +kernel
theorem dX2_foreseeOpenDuties_21 : decode cX2_foreseeOpenDuties 21 = .ok (.checkcast 47, 3) := by decide +kernel
theorem dX2_foreseeOpenDuties_24 : decode cX2_foreseeOpenDuties 24 = .ok (.astore_n 2, 1) := by decide +kernel
theorem dX2_foreseeOpenDuties_25 : decode cX2_foreseeOpenDuties 25 = .ok (.aload_n 2, 1) := by decide +kernel
theorem dX2_foreseeOpenDuties_26 : decode cX2_foreseeOpenDuties 26 = .ok (.aload_n 2, 1) := by decide +kernel
theorem dX2_foreseeOpenDuties_27 : decode cX2_foreseeOpenDuties 27 = .ok (.invokevirtual 130, 3) := by decide +kernel
theorem dX2_foreseeOpenDuties_30 : decode cX2_foreseeOpenDuties 30 = .ok (.putfield 162, 3) := by decide +kernel
theorem dX2_foreseeOpenDuties_33 : decode cX2_foreseeOpenDuties 33 = .ok (.iinc 1 1, 3) := by decide +kernel
theorem dX2_foreseeOpenDuties_36 : decode cX2_foreseeOpenDuties 36 = .ok (.goto (-34), 3) := by decide +kernel
theorem dX2_foreseeOpenDuties_39 : decode cX2_foreseeOpenDuties 39 = .ok (.return_, 1) := by decide +kernel
theorem dX2_leastBlocker_0 : decode cX2_leastBlocker 0 = .ok (.iconst 0, 1) := by decide +kernel
theorem dX2_leastBlocker_1 : decode cX2_leastBlocker 1 = .ok (.istore_n 2, 1) := by decide +kernel
theorem dX2_leastBlocker_2 : decode cX2_leastBlocker 2 = .ok (.iload_n 2, 1) := by decide +kernel
theorem dX2_leastBlocker_3 : decode cX2_leastBlocker 3 = .ok (.aload_n 0, 1) := by decide +kernel
theorem dX2_leastBlocker_4 : decode cX2_leastBlocker 4 = .ok (.getfield 19, 3) := by decide +kernel
theorem dX2_leastBlocker_7 : decode cX2_leastBlocker 7 = .ok (.invokevirtual 39, 3) := by decide +kernel
theorem dX2_leastBlocker_10 : decode cX2_leastBlocker 10 = .ok (.if_icmp .ge 62, 3) := by decide +kernel
theorem dX2_leastBlocker_13 : decode cX2_leastBlocker 13 = .ok (.aload_n 0, 1) := by decide +kernel
theorem dX2_leastBlocker_14 : decode cX2_leastBlocker 14 = .ok (.getfield 19, 3) := by decide +kernel
theorem dX2_leastBlocker_17 : decode cX2_leastBlocker 17 = .ok (.iload_n 2, 1) := by decide +kernel
theorem dX2_leastBlocker_18 : decode cX2_leastBlocker 18 = .ok (.invokevirtual 43, 3) := by decide +kernel
theorem dX2_leastBlocker_21 : decode cX2_leastBlocker 21 = .ok (.checkcast 47, 3) := by decide +kernel
theorem dX2_leastBlocker_24 : decode cX2_leastBlocker 24 = .ok (.astore_n 3, 1) := by decide +kernel
theorem dX2_leastBlocker_25 : decode cX2_leastBlocker 25 = .ok (.aload_n 3, 1) := by decide +kernel
theorem dX2_leastBlocker_26 : decode cX2_leastBlocker 26 = .ok (.getfield 162, 3) := by decide +kernel
theorem dX2_leastBlocker_29 : decode cX2_leastBlocker 29 = .ok (.iconst (-1), 1) := by decide +kernel
theorem dX2_leastBlocker_30 : decode cX2_leastBlocker 30 = .ok (.if_icmp .eq 7, 3) := by decide +kernel
theorem dX2_leastBlocker_33 : decode cX2_leastBlocker 33 = .ok (.iconst 1, 1) := by decide +kernel
theorem dX2_leastBlocker_34 : decode cX2_leastBlocker 34 = .ok (.goto 4, 3) := by decide +kernel
theorem dX2_leastBlocker_37 : decode cX2_leastBlocker 37 = .ok (.iconst 0, 1) := by decide +kernel
theorem dX2_leastBlocker_38 : decode cX2_leastBlocker 38 = .ok (.istore 4, 2) := by decide +kernel
theorem dX2_leastBlocker_40 : decode cX2_leastBlocker 40 = .ok (.aload_n 1, 1) := by decide +kernel
theorem dX2_leastBlocker_41 : decode cX2_leastBlocker 41 = .ok (.iload_n 2, 1) := by decide +kernel
theorem dX2_leastBlocker_42 : decode cX2_leastBlocker 42 = .ok (.invokevirtual 98, 3) := by decide +kernel
theorem dX2_leastBlocker_45 : decode cX2_leastBlocker 45 = .ok (.ifCond .eq 21, 3) := by decide +kernel
theorem dX2_leastBlocker_48 : decode cX2_leastBlocker 48 = .ok (.iload 4, 2) := by decide +kernel
theorem dX2_leastBlocker_50 : decode cX2_leastBlocker 50 = .ok (.ifCond .eq 16, 3) := by decide +kernel
theorem dX2_leastBlocker_53 : decode cX2_leastBlocker 53 = .ok (.aload_n 3, 1) := by decide +kernel
theorem dX2_leastBlocker_54 : decode cX2_leastBlocker 54 = .ok (.getfield 162, 3) := by decide +kernel
theorem dX2_leastBlocker_57 : decode cX2_leastBlocker 57 = .ok (.aload_n 1, 1) := by decide +kernel
theorem dX2_leastBlocker_58 : decode cX2_leastBlocker 58 = .ok (.getfield 162, 3) := by decide +kernel
theorem dX2_leastBlocker_61 : decode cX2_leastBlocker 61 = .ok (.if_icmp .gt 5, 3) := by decide +kernel
theorem dX2_leastBlocker_64 : decode cX2_leastBlocker 64 = .ok (.iload_n 2, 1) := by decide +kernel
theorem dX2_leastBlocker_65 : decode cX2_leastBlocker 65 = .ok (.ireturn, 1) := by decide +kernel
theorem dX2_leastBlocker_66 : decode cX2_leastBlocker 66 = .ok (.iinc 2 1, 3) := by decide +kernel
theorem dX2_leastBlocker_69 : decode cX2_leastBlocker 69 = .ok (.goto (-67), 3) := by decide +kernel
theorem dX2_leastBlocker_72 : decode cX2_leastBlocker 72 = .ok (.iconst (-1), 1) := by decide +kernel
theorem dX2_leastBlocker_73 : decode cX2_leastBlocker 73 = .ok (.ireturn, 1) := by decide +kernel
theorem dX2_nextInOrder_0 : decode cX2_nextInOrder 0 = .ok (.iconst (-1), 1) := by decide +kernel
theorem dX2_nextInOrder_1 : decode cX2_nextInOrder 1 = .ok (.istore_n 2, 1) := by decide +kernel
theorem dX2_nextInOrder_2 : decode cX2_nextInOrder 2 = .ok (.iload_n 1, 1) := by decide +kernel
theorem dX2_nextInOrder_3 : decode cX2_nextInOrder 3 = .ok (.iconst 1, 1) := by decide +kernel
theorem dX2_nextInOrder_4 : decode cX2_nextInOrder 4 = .ok (.iadd, 1) := by decide +kernel
theorem dX2_nextInOrder_5 : decode cX2_nextInOrder 5 = .ok (.istore_n 3, 1) := by decide +kernel
theorem dX2_nextInOrder_6 : decode cX2_nextInOrder 6 = .ok (.iconst 0, 1) := by decide +kernel
theorem dX2_nextInOrder_7 : decode cX2_nextInOrder 7 = .ok (.istore 4, 2) := by decide +kernel
theorem dX2_nextInOrder_9 : decode cX2_nextInOrder 9 = .ok (.iload 4, 2) := by decide +kernel
theorem dX2_nextInOrder_11 : decode cX2_nextInOrder 11 = .ok (.aload_n 0, 1) := by decide +kernel
theorem dX2_nextInOrder_12 : decode cX2_nextInOrder 12 = .ok (.getfield 19, 3) := by decide +kernel
theorem dX2_nextInOrder_15 : decode cX2_nextInOrder 15 = .ok (.invokevirtual 39, 3) := by decide +kernel
theorem dX2_nextInOrder_18 : decode cX2_nextInOrder 18 = .ok (.if_icmp .ge 72, 3) := by decide +kernel
theorem dX2_nextInOrder_21 : decode cX2_nextInOrder 21 = .ok (.aload_n 0, 1) := by decide +kernel
theorem dX2_nextInOrder_22 : decode cX2_nextInOrder 22 = .ok (.getfield 19, 3) := by decide +kernel
theorem dX2_nextInOrder_25 : decode cX2_nextInOrder 25 = .ok (.iload 4, 2) := by decide +kernel
theorem dX2_nextInOrder_27 : decode cX2_nextInOrder 27 = .ok (.invokevirtual 43, 3) := by decide +kernel
theorem dX2_nextInOrder_30 : decode cX2_nextInOrder 30 = .ok (.checkcast 47, 3) := by decide +kernel
theorem dX2_nextInOrder_33 : decode cX2_nextInOrder 33 = .ok (.astore 5, 2) := by decide +kernel
theorem dX2_nextInOrder_35 : decode cX2_nextInOrder 35 = .ok (.aload 5, 2) := by decide +kernel
theorem dX2_nextInOrder_37 : decode cX2_nextInOrder 37 = .ok (.getfield 162, 3) := by decide +kernel
theorem dX2_nextInOrder_40 : decode cX2_nextInOrder 40 = .ok (.iconst (-1), 1) := by decide +kernel
theorem dX2_nextInOrder_41 : decode cX2_nextInOrder 41 = .ok (.if_icmp .eq 7, 3) := by decide +kernel
theorem dX2_nextInOrder_44 : decode cX2_nextInOrder 44 = .ok (.iconst 1, 1) := by decide +kernel
theorem dX2_nextInOrder_45 : decode cX2_nextInOrder 45 = .ok (.goto 4, 3) := by decide +kernel
theorem dX2_nextInOrder_48 : decode cX2_nextInOrder 48 = .ok (.iconst 0, 1) := by decide +kernel
theorem dX2_nextInOrder_49 : decode cX2_nextInOrder 49 = .ok (.istore 6, 2) := by decide +kernel
theorem dX2_nextInOrder_51 : decode cX2_nextInOrder 51 = .ok (.iload 6, 2) := by decide +kernel
theorem dX2_nextInOrder_53 : decode cX2_nextInOrder 53 = .ok (.ifCond .eq 31, 3) := by decide +kernel
theorem dX2_nextInOrder_56 : decode cX2_nextInOrder 56 = .ok (.aload 5, 2) := by decide +kernel
theorem dX2_nextInOrder_58 : decode cX2_nextInOrder 58 = .ok (.getfield 162, 3) := by decide +kernel
theorem dX2_nextInOrder_61 : decode cX2_nextInOrder 61 = .ok (.iload_n 3, 1) := by decide +kernel
theorem dX2_nextInOrder_62 : decode cX2_nextInOrder 62 = .ok (.if_icmp .ge 22, 3) := by decide +kernel
theorem dX2_nextInOrder_65 : decode cX2_nextInOrder 65 = .ok (.aload_n 0, 1) := by decide +kernel
theorem dX2_nextInOrder_66 : decode cX2_nextInOrder 66 = .ok (.aload 5, 2) := by decide +kernel
theorem dX2_nextInOrder_68 : decode cX2_nextInOrder 68 = .ok (.invokevirtual 141, 3) := by decide +kernel
theorem dX2_nextInOrder_71 : decode cX2_nextInOrder 71 = .ok (.iconst (-1), 1) := by decide +kernel
theorem dX2_nextInOrder_72 : decode cX2_nextInOrder 72 = .ok (.if_icmp .ne 12, 3) := by decide +kernel
theorem dX2_nextInOrder_75 : decode cX2_nextInOrder 75 = .ok (.iload 4, 2) := by decide +kernel
theorem dX2_nextInOrder_77 : decode cX2_nextInOrder 77 = .ok (.istore_n 2, 1) := by decide +kernel
theorem dX2_nextInOrder_78 : decode cX2_nextInOrder 78 = .ok (.aload 5, 2) := by decide +kernel
theorem dX2_nextInOrder_80 : decode cX2_nextInOrder 80 = .ok (.getfield 162, 3) := by decide +kernel
theorem dX2_nextInOrder_83 : decode cX2_nextInOrder 83 = .ok (.istore_n 3, 1) := by decide +kernel
theorem dX2_nextInOrder_84 : decode cX2_nextInOrder 84 = .ok (.iinc 4 1, 3) := by decide +kernel
theorem dX2_nextInOrder_87 : decode cX2_nextInOrder 87 = .ok (.goto (-78), 3) := by decide +kernel
theorem dX2_nextInOrder_90 : decode cX2_nextInOrder 90 = .ok (.iload_n 2, 1) := by decide +kernel
theorem dX2_nextInOrder_91 : decode cX2_nextInOrder 91 = .ok (.ireturn, 1) := by decide +kernel
theorem dX2_effortsDueOn_0 : decode cX2_effortsDueOn 0 = .ok (.iconst 0, 1) := by decide +kernel
theorem dX2_effortsDueOn_1 : decode cX2_effortsDueOn 1 = .ok (.istore_n 2, 1) := by decide +kernel
theorem dX2_effortsDueOn_2 : decode cX2_effortsDueOn 2 = .ok (.iconst 0, 1) := by decide +kernel
theorem dX2_effortsDueOn_3 : decode cX2_effortsDueOn 3 = .ok (.istore_n 3, 1) := by decide +kernel
theorem dX2_effortsDueOn_4 : decode cX2_effortsDueOn 4 = .ok (.iload_n 3, 1) := by decide +kernel
theorem dX2_effortsDueOn_5 : decode cX2_effortsDueOn 5 = .ok (.aload_n 0, 1) := by decide +kernel
theorem dX2_effortsDueOn_6 : decode cX2_effortsDueOn 6 = .ok (.getfield 19, 3) := by decide +kernel
theorem dX2_effortsDueOn_9 : decode cX2_effortsDueOn 9 = .ok (.invokevirtual 39, 3) := by decide +kernel
theorem dX2_effortsDueOn_12 : decode cX2_effortsDueOn 12 = .ok (.if_icmp .ge 39, 3) := by decide +kernel
theorem dX2_effortsDueOn_15 : decode cX2_effortsDueOn 15 = .ok (.aload_n 0, 1) := by decide +kernel
theorem dX2_effortsDueOn_16 : decode cX2_effortsDueOn 16 = .ok (.getfield 19, 3) := by decide +kernel
theorem dX2_effortsDueOn_19 : decode cX2_effortsDueOn 19 = .ok (.iload_n 3, 1) := by decide +kernel
theorem dX2_effortsDueOn_20 : decode cX2_effortsDueOn 20 = .ok (.invokevirtual 43, 3) := by decide +kernel
theorem dX2_effortsDueOn_23 : decode cX2_effortsDueOn 23 = .ok (.checkcast 47, 3) := by decide +kernel
theorem dX2_effortsDueOn_26 : decode cX2_effortsDueOn 26 = .ok (.astore 4, 2) := by decide +kernel
theorem dX2_effortsDueOn_28 : decode cX2_effortsDueOn 28 = .ok (.aload 4, 2) := by decide +kernel
theorem dX2_effortsDueOn_30 : decode cX2_effortsDueOn 30 = .ok (.iload_n 1, 1) := by decide +kernel
theorem dX2_effortsDueOn_31 : decode cX2_effortsDueOn 31 = .ok (.invokevirtual 127, 3) := by decide +kernel
theorem dX2_effortsDueOn_34 : decode cX2_effortsDueOn 34 = .ok (.ifCond .eq 11, 3) := by decide +kernel
theorem dX2_effortsDueOn_37 : decode cX2_effortsDueOn 37 = .ok (.iload_n 2, 1) := by decide +kernel
theorem dX2_effortsDueOn_38 : decode cX2_effortsDueOn 38 = .ok (.aload 4, 2) := by decide +kernel
theorem dX2_effortsDueOn_40 : decode cX2_effortsDueOn 40 = .ok (.getfield 200, 3) := by decide +kernel
theorem dX2_effortsDueOn_43 : decode cX2_effortsDueOn 43 = .ok (.iadd, 1) := by decide +kernel
theorem dX2_effortsDueOn_44 : decode cX2_effortsDueOn 44 = .ok (.istore_n 2, 1) := by decide +kernel
theorem dX2_effortsDueOn_45 : decode cX2_effortsDueOn 45 = .ok (.iinc 3 1, 3) := by decide +kernel
theorem dX2_effortsDueOn_48 : decode cX2_effortsDueOn 48 = .ok (.goto (-44), 3) := by decide +kernel
theorem dX2_effortsDueOn_51 : decode cX2_effortsDueOn 51 = .ok (.iload_n 2, 1) := by decide +kernel
theorem dX2_effortsDueOn_52 : decode cX2_effortsDueOn 52 = .ok (.ireturn, 1) := by decide +kernel
theorem dX2_layEfforts_0 : decode cX2_layEfforts 0 = .ok (.aload_n 0, 1) := by decide +kernel
theorem dX2_layEfforts_1 : decode cX2_layEfforts 1 = .ok (.getfield 27, 3) := by decide +kernel
theorem dX2_layEfforts_4 : decode cX2_layEfforts 4 = .ok (.iconst 0, 1) := by decide +kernel
theorem dX2_layEfforts_5 : decode cX2_layEfforts 5 = .ok (.invokestatic 203, 3) := by decide +kernel
theorem dX2_layEfforts_8 : decode cX2_layEfforts 8 = .ok (.iconst 0, 1) := by decide +kernel
theorem dX2_layEfforts_9 : decode cX2_layEfforts 9 = .ok (.istore 4, 2) := by decide +kernel
theorem dX2_layEfforts_11 : decode cX2_layEfforts 11 = .ok (.iload_n 1, 1) := by decide +kernel
theorem dX2_layEfforts_12 : decode cX2_layEfforts 12 = .ok (.istore 5, 2) := by decide +kernel
theorem dX2_layEfforts_14 : decode cX2_layEfforts 14 = .ok (.iload 5, 2) := by decide +kernel
theorem dX2_layEfforts_16 : decode cX2_layEfforts 16 = .ok (.iload_n 2, 1) := by decide +kernel
theorem dX2_layEfforts_17 : decode cX2_layEfforts 17 = .ok (.if_icmp .gt 80, 3) := by decide +kernel
theorem dX2_layEfforts_20 : decode cX2_layEfforts 20 = .ok (.iconst 0, 1) := by decide +kernel
theorem dX2_layEfforts_21 : decode cX2_layEfforts 21 = .ok (.istore 6, 2) := by decide +kernel
theorem dX2_layEfforts_23 : decode cX2_layEfforts 23 = .ok (.iload 6, 2) := by decide +kernel
theorem dX2_layEfforts_25 : decode cX2_layEfforts 25 = .ok (.aload_n 0, 1) := by decide +kernel
theorem dX2_layEfforts_26 : decode cX2_layEfforts 26 = .ok (.getfield 19, 3) := by decide +kernel
theorem dX2_layEfforts_29 : decode cX2_layEfforts 29 = .ok (.invokevirtual 39, 3) := by decide +kernel
theorem dX2_layEfforts_32 : decode cX2_layEfforts 32 = .ok (.if_icmp .ge 59, 3) := by decide +kernel
theorem dX2_layEfforts_35 : decode cX2_layEfforts 35 = .ok (.aload_n 0, 1) := by decide +kernel
theorem dX2_layEfforts_36 : decode cX2_layEfforts 36 = .ok (.getfield 19, 3) := by decide +kernel
theorem dX2_layEfforts_39 : decode cX2_layEfforts 39 = .ok (.iload 6, 2) := by decide +kernel
theorem dX2_layEfforts_41 : decode cX2_layEfforts 41 = .ok (.invokevirtual 43, 3) := by decide +kernel
theorem dX2_layEfforts_44 : decode cX2_layEfforts 44 = .ok (.checkcast 47, 3) := by decide +kernel
theorem dX2_layEfforts_47 : decode cX2_layEfforts 47 = .ok (.astore 7, 2) := by decide +kernel
theorem dX2_layEfforts_49 : decode cX2_layEfforts 49 = .ok (.aload 7, 2) := by decide +kernel
theorem dX2_layEfforts_51 : decode cX2_layEfforts 51 = .ok (.iload 5, 2) := by decide +kernel
theorem dX2_layEfforts_53 : decode cX2_layEfforts 53 = .ok (.invokevirtual 127, 3) := by decide +kernel
theorem dX2_layEfforts_56 : decode cX2_layEfforts 56 = .ok (.ifCond .eq 29, 3) := by decide +kernel
theorem dX2_layEfforts_59 : decode cX2_layEfforts 59 = .ok (.aload_n 0, 1) := by decide +kernel
theorem dX2_layEfforts_60 : decode cX2_layEfforts 60 = .ok (.iload_n 1, 1) := by decide +kernel
theorem dX2_layEfforts_61 : decode cX2_layEfforts 61 = .ok (.iload 5, 2) := by decide +kernel
theorem dX2_layEfforts_63 : decode cX2_layEfforts 63 = .ok (.iload_n 3, 1) := by decide +kernel
theorem dX2_layEfforts_64 : decode cX2_layEfforts 64 = .ok (.aload 7, 2) := by decide +kernel
theorem dX2_layEfforts_66 : decode cX2_layEfforts 66 = .ok (.getfield 200, 3) := by decide +kernel
theorem dX2_layEfforts_69 : decode cX2_layEfforts 69 = .ok (.invokevirtual 209, 3) := by decide +kernel
theorem dX2_layEfforts_72 : decode cX2_layEfforts 72 = .ok (.ifCond .ne 13, 3) := by decide +kernel
theorem dX2_layEfforts_75 : decode cX2_layEfforts 75 = .ok (.iload 4, 2) := by decide +kernel
theorem dX2_layEfforts_77 : decode cX2_layEfforts 77 = .ok (.aload 7, 2) := by decide +kernel
theorem dX2_layEfforts_79 : decode cX2_layEfforts 79 = .ok (.getfield 200, 3) := by decide +kernel
theorem dX2_layEfforts_82 : decode cX2_layEfforts 82 = .ok (.iadd, 1) := by decide +kernel
theorem dX2_layEfforts_83 : decode cX2_layEfforts 83 = .ok (.istore 4, 2) := by decide +kernel
theorem dX2_layEfforts_85 : decode cX2_layEfforts 85 = .ok (.iinc 6 1, 3) := by decide +kernel
theorem dX2_layEfforts_88 : decode cX2_layEfforts 88 = .ok (.goto (-65), 3) := by decide +kernel
theorem dX2_layEfforts_91 : decode cX2_layEfforts 91 = .ok (.iinc 5 1, 3) := by decide +kernel
theorem dX2_layEfforts_94 : decode cX2_layEfforts 94 = .ok (.goto (-80), 3) := by decide +kernel
theorem dX2_layEfforts_97 : decode cX2_layEfforts 97 = .ok (.iload 4, 2) := by decide +kernel
theorem dX2_layEfforts_99 : decode cX2_layEfforts 99 = .ok (.ireturn, 1) := by decide +kernel
theorem dX2_layEffort_0 : decode cX2_layEffort 0 = .ok (.iload_n 2, 1) := by decide +kernel
theorem dX2_layEffort_1 : decode cX2_layEffort 1 = .ok (.istore 5, 2) := by decide +kernel
theorem dX2_layEffort_3 : decode cX2_layEffort 3 = .ok (.iload 5, 2) := by decide +kernel
theorem dX2_layEffort_5 : decode cX2_layEffort 5 = .ok (.iload_n 1, 1) := by decide +kernel
theorem dX2_layEffort_6 : decode cX2_layEffort 6 = .ok (.if_icmp .lt 49, 3) := by decide +kernel
theorem dX2_layEffort_9 : decode cX2_layEffort 9 = .ok (.aload_n 0, 1) := by decide +kernel
theorem dX2_layEffort_10 : decode cX2_layEffort 10 = .ok (.getfield 12, 3) := by decide +kernel
theorem dX2_layEffort_13 : decode cX2_layEffort 13 = .ok (.iload 5, 2) := by decide +kernel
theorem dX2_layEffort_15 : decode cX2_layEffort 15 = .ok (.invokevirtual 53, 3) := by decide +kernel
theorem dX2_layEffort_18 : decode cX2_layEffort 18 = .ok (.ifCond .eq 31, 3) := by decide +kernel
theorem dX2_layEffort_21 : decode cX2_layEffort 21 = .ok (.aload_n 0, 1) := by decide +kernel
theorem dX2_layEffort_22 : decode cX2_layEffort 22 = .ok (.getfield 27, 3) := by decide +kernel
theorem dX2_layEffort_25 : decode cX2_layEffort 25 = .ok (.iload 5, 2) := by decide +kernel
theorem dX2_layEffort_27 : decode cX2_layEffort 27 = .ok (.iaload, 1) := by decide +kernel
theorem dX2_layEffort_28 : decode cX2_layEffort 28 = .ok (.iload 4, 2) := by decide +kernel
theorem dX2_layEffort_30 : decode cX2_layEffort 30 = .ok (.iadd, 1) := by decide +kernel
theorem dX2_layEffort_31 : decode cX2_layEffort 31 = .ok (.iload_n 3, 1) := by decide +kernel
theorem dX2_layEffort_32 : decode cX2_layEffort 32 = .ok (.if_icmp .gt 17, 3) := by decide +kernel
theorem dX2_layEffort_35 : decode cX2_layEffort 35 = .ok (.aload_n 0, 1) := by decide +kernel
theorem dX2_layEffort_36 : decode cX2_layEffort 36 = .ok (.getfield 27, 3) := by decide +kernel
theorem dX2_layEffort_39 : decode cX2_layEffort 39 = .ok (.iload 5, 2) := by decide +kernel
theorem dX2_layEffort_41 : decode cX2_layEffort 41 = .ok (.dup2, 1) := by decide +kernel
theorem dX2_layEffort_42 : decode cX2_layEffort 42 = .ok (.iaload, 1) := by decide +kernel
theorem dX2_layEffort_43 : decode cX2_layEffort 43 = .ok (.iload 4, 2) := by decide +kernel
theorem dX2_layEffort_45 : decode cX2_layEffort 45 = .ok (.iadd, 1) := by decide +kernel
theorem dX2_layEffort_46 : decode cX2_layEffort 46 = .ok (.iastore, 1) := by decide +kernel
theorem dX2_layEffort_47 : decode cX2_layEffort 47 = .ok (.iconst 1, 1) := by decide +kernel
theorem dX2_layEffort_48 : decode cX2_layEffort 48 = .ok (.ireturn, 1) := by decide +kernel
theorem dX2_layEffort_49 : decode cX2_layEffort 49 = .ok (.iinc 5 (-1), 3) := by decide +kernel
theorem dX2_layEffort_52 : decode cX2_layEffort 52 = .ok (.goto (-49), 3) := by decide +kernel
theorem dX2_layEffort_55 : decode cX2_layEffort 55 = .ok (.iconst 0, 1) := by decide +kernel
theorem dX2_layEffort_56 : decode cX2_layEffort 56 = .ok (.ireturn, 1) := by decide +kernel
theorem dX3_init_0 : decode cX3_init 0 = .ok (.aload_n 0, 1) := by decide +kernel
theorem dX3_init_1 : decode cX3_init 1 = .ok (.invokespecial 1, 3) := by decide +kernel
theorem dX3_init_4 : decode cX3_init 4 = .ok (.aload_n 0, 1) := by decide +kernel
theorem dX3_init_5 : decode cX3_init 5 = .ok (.sipush 720, 3) := by decide +kernel
theorem dX3_init_8 : decode cX3_init 8 = .ok (.newarray .boolean, 2) := by decide +kernel
theorem dX3_init_10 : decode cX3_init 10 = .ok (.putfield 7, 3) := by decide +kernel
theorem dX3_init_13 : decode cX3_init 13 = .ok (.aload_n 0, 1) := by decide +kernel
theorem dX3_init_14 : decode cX3_init 14 = .ok (.bipush 8, 2) := by decide +kernel
theorem dX3_init_16 : decode cX3_init 16 = .ok (.newarray .int, 2) := by decide +kernel
theorem dX3_init_18 : decode cX3_init 18 = .ok (.putfield 13, 3) := by decide +kernel
theorem dX3_init_21 : decode cX3_init 21 = .ok (.aload_n 0, 1) := by decide +kernel
theorem dX3_init_22 : decode cX3_init 22 = .ok (.bipush 8, 2) := by decide +kernel
theorem dX3_init_24 : decode cX3_init 24 = .ok (.newarray .int, 2) := by decide +kernel
theorem dX3_init_26 : decode cX3_init 26 = .ok (.putfield 17, 3) := by decide +kernel
theorem dX3_init_29 : decode cX3_init 29 = .ok (.aload_n 0, 1) := by decide +kernel
theorem dX3_init_30 : decode cX3_init 30 = .ok (.bipush 8, 2) := by decide +kernel
theorem dX3_init_32 : decode cX3_init 32 = .ok (.newarray .int, 2) := by decide +kernel
theorem dX3_init_34 : decode cX3_init 34 = .ok (.putfield 20, 3) := by decide +kernel
theorem dX3_init_37 : decode cX3_init 37 = .ok (.aload_n 0, 1) := by decide +kernel
theorem dX3_init_38 : decode cX3_init 38 = .ok (.bipush 8, 2) := by decide +kernel
theorem dX3_init_40 : decode cX3_init 40 = .ok (.newarray .int, 2) := by decide +kernel
theorem dX3_init_42 : decode cX3_init 42 = .ok (.putfield 23, 3) := by decide +kernel
theorem dX3_init_45 : decode cX3_init 45 = .ok (.aload_n 0, 1) := by decide +kernel
theorem dX3_init_46 : decode cX3_init 46 = .ok (.bipush 8, 2) := by decide +kernel
theorem dX3_init_48 : decode cX3_init 48 = .ok (.newarray .int, 2) := by decide +kernel
theorem dX3_init_50 : decode cX3_init 50 = .ok (.putfield 26, 3) := by decide +kernel
theorem dX3_init_53 : decode cX3_init 53 = .ok (.aload_n 0, 1) := by decide +kernel
theorem dX3_init_54 : decode cX3_init 54 = .ok (.bipush 8, 2) := by decide +kernel
theorem dX3_init_56 : decode cX3_init 56 = .ok (.newarray .int, 2) := by decide +kernel
theorem dX3_init_58 : decode cX3_init 58 = .ok (.putfield 29, 3) := by decide +kernel
theorem dX3_init_61 : decode cX3_init 61 = .ok (.aload_n 0, 1) := by decide +kernel
theorem dX3_init_62 : decode cX3_init 62 = .ok (.bipush 8, 2) := by decide +kernel
theorem dX3_init_64 : decode cX3_init 64 = .ok (.newarray .int, 2) := by decide +kernel
theorem dX3_init_66 : decode cX3_init 66 = .ok (.putfield 32, 3) := by decide +kernel
theorem dX3_init_69 : decode cX3_init 69 = .ok (.aload_n 0, 1) := by decide +kernel
theorem dX3_init_70 : decode cX3_init 70 = .ok (.bipush 8, 2) := by decide +kernel
theorem dX3_init_72 : decode cX3_init 72 = .ok (.newarray .int, 2) := by decide +kernel
theorem dX3_init_74 : decode cX3_init 74 = .ok (.putfield 35, 3) := by decide +kernel
theorem dX3_init_77 : decode cX3_init 77 = .ok (.aload_n 0, 1) := by decide +kernel
theorem dX3_init_78 : decode cX3_init 78 = .ok (.bipush 64, 2) := by decide +kernel
theorem dX3_init_80 : decode cX3_init 80 = .ok (.newarray .boolean, 2) := by decide +kernel
theorem dX3_init_82 : decode cX3_init 82 = .ok (.putfield 38, 3) := by decide +kernel
theorem dX3_init_85 : decode cX3_init 85 = .ok (.aload_n 0, 1) := by decide +kernel
theorem dX3_init_86 : decode cX3_init 86 = .ok (.sipush 5760, 3) := by decide +kernel
theorem dX3_init_89 : decode cX3_init 89 = .ok (.newarray .boolean, 2) := by decide +kernel
theorem dX3_init_91 : decode cX3_init 91 = .ok (.putfield 41, 3) := by decide +kernel
theorem dX3_init_94 : decode cX3_init 94 = .ok (.aload_n 0, 1) := by decide +kernel
theorem dX3_init_95 : decode cX3_init 95 = .ok (.sipush 5760, 3) := by decide +kernel
theorem dX3_init_98 : decode cX3_init 98 = .ok (.newarray .int, 2) := by decide +kernel
theorem dX3_init_100 : decode cX3_init 100 = .ok (.putfield 44, 3) := by decide +kernel
theorem dX3_init_103 : decode cX3_init 103 = .ok (.aload_n 0, 1) := by decide +kernel
theorem dX3_init_104 : decode cX3_init 104 = .ok (.bipush 8, 2) := by decide +kernel
theorem dX3_init_106 : decode cX3_init 106 = .ok (.newarray .int, 2) := by decide +kernel
theorem dX3_init_108 : decode cX3_init 108 = .ok (.putfield 47, 3) := by decide +kernel
theorem dX3_init_111 : decode cX3_init 111 = .ok (.aload_n 0, 1) := by decide +kernel
theorem dX3_init_112 : decode cX3_init 112 = .ok (.bipush 8, 2) := by decide +kernel
theorem dX3_init_114 : decode cX3_init 114 = .ok (.newarray .int, 2) := by decide +kernel
theorem dX3_init_116 : decode cX3_init 116 = .ok (.putfield 50, 3) := by decide +kernel
theorem dX3_init_119 : decode cX3_init 119 = .ok (.aload_n 0, 1) := by decide +kernel
theorem dX3_init_120 : decode cX3_init 120 = .ok (.sipush 720, 3) := by decide +kernel
theorem dX3_init_123 : decode cX3_init 123 = .ok (.newarray .int, 2) := by decide +kernel
theorem dX3_init_125 : decode cX3_init 125 = .ok (.putfield 53, 3) := by decide +kernel
theorem dX3_init_128 : decode cX3_init 128 = .ok (.iconst 0, 1) := by decide +kernel
theorem dX3_init_129 : decode cX3_init 129 = .ok (.istore_n 1, 1) := by decide +kernel
theorem dX3_init_130 : decode cX3_init 130 = .ok (.iload_n 1, 1) := by decide +kernel
theorem dX3_init_131 : decode cX3_init 131 = .ok (.bipush 8, 2) := by decide +kernel
theorem dX3_init_133 : decode cX3_init 133 = .ok (.if_icmp .ge 16, 3) := by decide +kernel
theorem dX3_init_136 : decode cX3_init 136 = .ok (.aload_n 0, 1) := by decide +kernel
theorem dX3_init_137 : decode cX3_init 137 = .ok (.getfield 35, 3) := by decide +kernel
theorem dX3_init_140 : decode cX3_init 140 = .ok (.iload_n 1, 1) := by decide +kernel
theorem dX3_init_141 : decode cX3_init 141 = .ok (.iconst (-1), 1) := by decide +kernel
theorem dX3_init_142 : decode cX3_init 142 = .ok (.iastore, 1) := by decide +kernel
theorem dX3_init_143 : decode cX3_init 143 = .ok (.iinc 1 1, 3) := by decide +kernel
theorem dX3_init_146 : decode cX3_init 146 = .ok (.goto (-16), 3) := by decide +kernel
theorem dX3_init_149 : decode cX3_init 149 = .ok (.return_, 1) := by decide +kernel
theorem dX3_thrown_0 : decode cX3_thrown 0 = .ok (.aload_n 0, 1) := by decide +kernel
theorem dX3_thrown_1 : decode cX3_thrown 1 = .ok (.getfield 56, 3) := by decide +kernel
theorem dX3_thrown_4 : decode cX3_thrown 4 = .ok (.ireturn, 1) := by decide +kernel
theorem dX3_fails_0 : decode cX3_fails 0 = .ok (.aload_n 0, 1) := by decide +kernel
theorem dX3_fails_1 : decode cX3_fails 1 = .ok (.iload_n 1, 1) := by decide +kernel
theorem dX3_fails_2 : decode cX3_fails 2 = .ok (.putfield 56, 3) := by decide +kernel
theorem dX3_fails_5 : decode cX3_fails 5 = .ok (.iconst 0, 1) := by decide +kernel
theorem dX3_fails_6 : decode cX3_fails 6 = .ok (.ireturn, 1) := by decide +kernel
theorem dX3_in_0 : decode cX3_in 0 = .ok (.iload_n 0, 1) := by decide +kernel
theorem dX3_in_1 : decode cX3_in 1 = .ok (.iload_n 1, 1) := by decide +kernel
theorem dX3_in_2 : decode cX3_in 2 = .ok (.if_icmp .lt 12, 3) := by decide +kernel
theorem dX3_in_5 : decode cX3_in 5 = .ok (.iload_n 0, 1) := by decide +kernel
theorem dX3_in_6 : decode cX3_in 6 = .ok (.iload_n 2, 1) := by decide +kernel
theorem dX3_in_7 : decode cX3_in 7 = .ok (.if_icmp .gt 7, 3) := by decide +kernel
theorem dX3_in_10 : decode cX3_in 10 = .ok (.iconst 1, 1) := by decide +kernel
theorem dX3_in_11 : decode cX3_in 11 = .ok (.goto 4, 3) := by decide +kernel
theorem dX3_in_14 : decode cX3_in 14 = .ok (.iconst 0, 1) := by decide +kernel
theorem dX3_in_15 : decode cX3_in 15 = .ok (.ireturn, 1) := by decide +kernel
theorem dX3_isDay_0 : decode cX3_isDay 0 = .ok (.iload_n 0, 1) := by decide +kernel
theorem dX3_isDay_1 : decode cX3_isDay 1 = .ok (.iconst 0, 1) := by decide +kernel
theorem dX3_isDay_2 : decode cX3_isDay 2 = .ok (.sipush 719, 3) := by decide +kernel
theorem dX3_isDay_5 : decode cX3_isDay 5 = .ok (.invokestatic 60, 3) := by decide +kernel
theorem dX3_isDay_8 : decode cX3_isDay 8 = .ok (.ireturn, 1) := by decide +kernel
theorem dX3_isRule_0 : decode cX3_isRule 0 = .ok (.iload_n 1, 1) := by decide +kernel
theorem dX3_isRule_1 : decode cX3_isRule 1 = .ok (.iconst 0, 1) := by decide +kernel
theorem dX3_isRule_2 : decode cX3_isRule 2 = .ok (.aload_n 0, 1) := by decide +kernel
theorem dX3_isRule_3 : decode cX3_isRule 3 = .ok (.getfield 64, 3) := by decide +kernel
theorem dX3_isRule_6 : decode cX3_isRule 6 = .ok (.iconst 1, 1) := by decide +kernel
theorem dX3_isRule_7 : decode cX3_isRule 7 = .ok (.isub, 1) := by decide +kernel
theorem dX3_isRule_8 : decode cX3_isRule 8 = .ok (.invokestatic 60, 3) := by decide +kernel
theorem dX3_isRule_11 : decode cX3_isRule 11 = .ok (.ireturn, 1) := by decide +kernel
theorem dX3_works_0 : decode cX3_works 0 = .ok (.iload_n 1, 1) := by decide +kernel
theorem dX3_works_1 : decode cX3_works 1 = .ok (.bipush 7, 2) := by decide +kernel
theorem dX3_works_3 : decode cX3_works 3 = .ok (.irem, 1) := by decide +kernel
theorem dX3_works_4 : decode cX3_works 4 = .ok (.iconst 5, 1) := by decide +kernel
theorem dX3_works_5 : decode cX3_works 5 = .ok (.if_icmp .ge 16, 3) := by decide +kernel
theorem dX3_works_8 : decode cX3_works 8 = .ok (.aload_n 0, 1) := by decide +kernel
theorem dX3_works_9 : decode cX3_works 9 = .ok (.getfield 7, 3) := by decide +kernel
theorem dX3_works_12 : decode cX3_works 12 = .ok (.iload_n 1, 1) := by decide +kernel
theorem dX3_works_13 : decode cX3_works 13 = .ok (.baload, 1) := by decide +kernel
theorem dX3_works_14 : decode cX3_works 14 = .ok (.ifCond .ne 7, 3) := by decide +kernel
theorem dX3_works_17 : decode cX3_works 17 = .ok (.iconst 1, 1) := by decide +kernel
theorem dX3_works_18 : decode cX3_works 18 = .ok (.goto 4, 3) := by decide +kernel
theorem dX3_works_21 : decode cX3_works 21 = .ok (.iconst 0, 1) := by decide +kernel
theorem dX3_works_22 : decode cX3_works 22 = .ok (.ireturn, 1) := by decide +kernel
theorem dX3_holiday_0 : decode cX3_holiday 0 = .ok (.aload_n 0, 1) := by decide +kernel
theorem dX3_holiday_1 : decode cX3_holiday 1 = .ok (.iload_n 1, 1) := by decide +kernel
theorem dX3_holiday_2 : decode cX3_holiday 2 = .ok (.invokestatic 67, 3) := by decide +kernel
theorem dX3_holiday_5 : decode cX3_holiday 5 = .ok (.ifCond .eq 7, 3) := by decide +kernel
theorem dX3_holiday_8 : decode cX3_holiday 8 = .ok (.iconst 0, 1) := by decide +kernel
theorem dX3_holiday_9 : decode cX3_holiday 9 = .ok (.goto 4, 3) := by decide +kernel
theorem dX3_holiday_12 : decode cX3_holiday 12 = .ok (.iconst 1, 1) := by decide +kernel
theorem dX3_holiday_13 : decode cX3_holiday 13 = .ok (.putfield 56, 3) := by decide +kernel
theorem dX3_holiday_16 : decode cX3_holiday 16 = .ok (.aload_n 0, 1) := by decide +kernel
theorem dX3_holiday_17 : decode cX3_holiday 17 = .ok (.getfield 56, 3) := by decide +kernel
theorem dX3_holiday_20 : decode cX3_holiday 20 = .ok (.ifCond .le 5, 3) := by decide +kernel
theorem dX3_holiday_23 : decode cX3_holiday 23 = .ok (.iconst 0, 1) := by decide +kernel
theorem dX3_holiday_24 : decode cX3_holiday 24 = .ok (.ireturn, 1) := by decide +kernel
theorem dX3_holiday_25 : decode cX3_holiday 25 = .ok (.aload_n 0, 1) := by decide +kernel
theorem dX3_holiday_26 : decode cX3_holiday 26 = .ok (.getfield 7, 3) := by decide +kernel
theorem dX3_holiday_29 : decode cX3_holiday 29 = .ok (.iload_n 1, 1) := by decide +kernel
theorem dX3_holiday_30 : decode cX3_holiday 30 = .ok (.aload_n 0, 1) := by decide +kernel
theorem dX3_holiday_31 : decode cX3_holiday 31 = .ok (.getfield 7, 3) := by decide +kernel
theorem dX3_holiday_34 : decode cX3_holiday 34 = .ok (.iload_n 1, 1) := by decide +kernel
theorem dX3_holiday_35 : decode cX3_holiday 35 = .ok (.baload, 1) := by decide +kernel
theorem dX3_holiday_36 : decode cX3_holiday 36 = .ok (.ifCond .ne 7, 3) := by decide +kernel
theorem dX3_holiday_39 : decode cX3_holiday 39 = .ok (.iconst 1, 1) := by decide +kernel
theorem dX3_holiday_40 : decode cX3_holiday 40 = .ok (.goto 4, 3) := by decide +kernel
theorem dX3_holiday_43 : decode cX3_holiday 43 = .ok (.iconst 0, 1) := by decide +kernel
theorem dX3_holiday_44 : decode cX3_holiday 44 = .ok (.bastore, 1) := by decide +kernel
theorem dX3_holiday_45 : decode cX3_holiday 45 = .ok (.aload_n 0, 1) := by decide +kernel
theorem dX3_holiday_46 : decode cX3_holiday 46 = .ok (.getfield 7, 3) := by decide +kernel
theorem dX3_holiday_49 : decode cX3_holiday 49 = .ok (.iload_n 1, 1) := by decide +kernel
theorem dX3_holiday_50 : decode cX3_holiday 50 = .ok (.baload, 1) := by decide +kernel
theorem dX3_holiday_51 : decode cX3_holiday 51 = .ok (.ireturn, 1) := by decide +kernel
theorem dX3_isWorking_0 : decode cX3_isWorking 0 = .ok (.aload_n 0, 1) := by decide +kernel
theorem dX3_isWorking_1 : decode cX3_isWorking 1 = .ok (.iload_n 1, 1) := by decide +kernel
theorem dX3_isWorking_2 : decode cX3_isWorking 2 = .ok (.invokestatic 67, 3) := by decide +kernel
theorem dX3_isWorking_5 : decode cX3_isWorking 5 = .ok (.ifCond .eq 7, 3) := by decide +kernel
theorem dX3_isWorking_8 : decode cX3_isWorking 8 = .ok (.iconst 0, 1) := by decide +kernel
theorem dX3_isWorking_9 : decode cX3_isWorking 9 = .ok (.goto 4, 3) := by decide +kernel
theorem dX3_isWorking_12 : decode cX3_isWorking 12 = .ok (.iconst 1, 1) := by decide +kernel
theorem dX3_isWorking_13 : decode cX3_isWorking 13 = .ok (.putfield 56, 3) := by decide +kernel
theorem dX3_isWorking_16 : decode cX3_isWorking 16 = .ok (.aload_n 0, 1) := by decide +kernel
theorem dX3_isWorking_17 : decode cX3_isWorking 17 = .ok (.getfield 56, 3) := by decide +kernel
theorem dX3_isWorking_20 : decode cX3_isWorking 20 = .ok (.ifCond .ne 15, 3) := by decide +kernel
theorem dX3_isWorking_23 : decode cX3_isWorking 23 = .ok (.aload_n 0, 1) := by decide +kernel
theorem dX3_isWorking_24 : decode cX3_isWorking 24 = .ok (.iload_n 1, 1) := by decide +kernel
theorem dX3_isWorking_25 : decode cX3_isWorking 25 = .ok (.invokevirtual 71, 3) := by decide +kernel
theorem dX3_isWorking_28 : decode cX3_isWorking 28 = .ok (.ifCond .eq 7, 3) := by decide +kernel
theorem dX3_isWorking_31 : decode cX3_isWorking 31 = .ok (.iconst 1, 1) := by decide +kernel
theorem dX3_isWorking_32 : decode cX3_isWorking 32 = .ok (.goto 4, 3) := by decide +kernel
theorem dX3_isWorking_35 : decode cX3_isWorking 35 = .ok (.iconst 0, 1) := by decide +kernel
theorem dX3_isWorking_36 : decode cX3_isWorking 36 = .ok (.ireturn, 1) := by decide +kernel
theorem dX3_workingFrom_0 : decode cX3_workingFrom 0 = .ok (.iconst 0, 1) := by decide +kernel
theorem dX3_workingFrom_1 : decode cX3_workingFrom 1 = .ok (.istore_n 3, 1) := by decide +kernel
theorem dX3_workingFrom_2 : decode cX3_workingFrom 2 = .ok (.iload_n 1, 1) := by decide +kernel
theorem dX3_workingFrom_3 : decode cX3_workingFrom 3 = .ok (.istore 4, 2) := by decide +kernel
theorem dX3_workingFrom_5 : decode cX3_workingFrom 5 = .ok (.iload 4, 2) := by decide +kernel
theorem dX3_workingFrom_7 : decode cX3_workingFrom 7 = .ok (.iload_n 2, 1) := by decide +kernel
theorem dX3_workingFrom_8 : decode cX3_workingFrom 8 = .ok (.if_icmp .gt 26, 3) := by decide +kernel
theorem dX3_workingFrom_11 : decode cX3_workingFrom 11 = .ok (.iload_n 3, 1) := by decide +kernel
theorem dX3_workingFrom_12 : decode cX3_workingFrom 12 = .ok (.aload_n 0, 1) := by decide +kernel
theorem dX3_workingFrom_13 : decode cX3_workingFrom 13 = .ok (.iload 4, 2) := by decide +kernel
theorem dX3_workingFrom_15 : decode cX3_workingFrom 15 = .ok (.invokevirtual 71, 3) := by decide +kernel
theorem dX3_workingFrom_18 : decode cX3_workingFrom 18 = .ok (.ifCond .eq 7, 3) := by decide +kernel
theorem dX3_workingFrom_21 : decode cX3_workingFrom 21 = .ok (.iconst 1, 1) := by decide +kernel
theorem dX3_workingFrom_22 : decode cX3_workingFrom 22 = .ok (.goto 4, 3) := by decide +kernel
theorem dX3_workingFrom_25 : decode cX3_workingFrom 25 = .ok (.iconst 0, 1) := by decide +kernel
theorem dX3_workingFrom_26 : decode cX3_workingFrom 26 = .ok (.iadd, 1) := by decide +kernel
theorem dX3_workingFrom_27 : decode cX3_workingFrom 27 = .ok (.istore_n 3, 1) := by decide +kernel
theorem dX3_workingFrom_28 : decode cX3_workingFrom 28 = .ok (.iinc 4 1, 3) := by decide +kernel
theorem dX3_workingFrom_31 : decode cX3_workingFrom 31 = .ok (.goto (-26), 3) := by decide +kernel
theorem dX3_workingFrom_34 : decode cX3_workingFrom 34 = .ok (.iload_n 3, 1) := by decide +kernel
theorem dX3_workingFrom_35 : decode cX3_workingFrom 35 = .ok (.ireturn, 1) := by decide +kernel
theorem dX3_barsSpan_0 : decode cX3_barsSpan 0 = .ok (.iload_n 0, 1) := by decide +kernel
theorem dX3_barsSpan_1 : decode cX3_barsSpan 1 = .ok (.invokestatic 67, 3) := by decide +kernel
theorem dX3_barsSpan_4 : decode cX3_barsSpan 4 = .ok (.ifCond .eq 10, 3) := by decide +kernel
theorem dX3_barsSpan_7 : decode cX3_barsSpan 7 = .ok (.iload_n 1, 1) := by decide +kernel
theorem dX3_barsSpan_8 : decode cX3_barsSpan 8 = .ok (.invokestatic 67, 3) := by decide +kernel
theorem dX3_barsSpan_11 : decode cX3_barsSpan 11 = .ok (.ifCond .ne 7, 3) := by decide +kernel
theorem dX3_barsSpan_14 : decode cX3_barsSpan 14 = .ok (.iconst 1, 1) := by decide +kernel
theorem dX3_barsSpan_15 : decode cX3_barsSpan 15 = .ok (.goto 13, 3) := by decide +kernel
theorem dX3_barsSpan_18 : decode cX3_barsSpan 18 = .ok (.iload_n 1, 1) := by decide +kernel
theorem dX3_barsSpan_19 : decode cX3_barsSpan 19 = .ok (.iload_n 0, 1) := by decide +kernel
theorem dX3_barsSpan_20 : decode cX3_barsSpan 20 = .ok (.if_icmp .ge 7, 3) := by decide +kernel
theorem dX3_barsSpan_23 : decode cX3_barsSpan 23 = .ok (.iconst 2, 1) := by decide +kernel
theorem dX3_barsSpan_24 : decode cX3_barsSpan 24 = .ok (.goto 4, 3) := by decide +kernel
theorem dX3_barsSpan_27 : decode cX3_barsSpan 27 = .ok (.iconst 0, 1) := by decide +kernel
theorem dX3_barsSpan_28 : decode cX3_barsSpan 28 = .ok (.ireturn, 1) := by decide +kernel
theorem dX3_workingDays_0 : decode cX3_workingDays 0 = .ok (.aload_n 0, 1) := by decide +kernel
theorem dX3_workingDays_1 : decode cX3_workingDays 1 = .ok (.iload_n 1, 1) := by decide +kernel
theorem dX3_workingDays_2 : decode cX3_workingDays 2 = .ok (.iload_n 2, 1) := by decide +kernel
theorem dX3_workingDays_3 : decode cX3_workingDays 3 = .ok (.invokestatic 74, 3) := by decide +kernel
theorem dX3_workingDays_6 : decode cX3_workingDays 6 = .ok (.putfield 56, 3) := by decide +kernel
theorem dX3_workingDays_9 : decode cX3_workingDays 9 = .ok (.aload_n 0, 1) := by decide +kernel
theorem dX3_workingDays_10 : decode cX3_workingDays 10 = .ok (.getfield 56, 3) := by decide +kernel
theorem dX3_workingDays_13 : decode cX3_workingDays 13 = .ok (.ifCond .le 7, 3) := by decide +kernel
theorem dX3_workingDays_16 : decode cX3_workingDays 16 = .ok (.iconst 0, 1) := by decide +kernel
theorem dX3_workingDays_17 : decode cX3_workingDays 17 = .ok (.goto 9, 3) := by decide +kernel
theorem dX3_workingDays_20 : decode cX3_workingDays 20 = .ok (.aload_n 0, 1) := by decide +kernel
theorem dX3_workingDays_21 : decode cX3_workingDays 21 = .ok (.iload_n 1, 1) := by decide +kernel
theorem dX3_workingDays_22 : decode cX3_workingDays 22 = .ok (.iload_n 2, 1) := by decide +kernel
theorem dX3_workingDays_23 : decode cX3_workingDays 23 = .ok (.invokevirtual 78, 3) := by decide +kernel
theorem dX3_workingDays_26 : decode cX3_workingDays 26 = .ok (.ireturn, 1) := by decide +kernel
theorem dX3_pass_0 : decode cX3_pass 0 = .ok (.aload_n 0, 1) := by decide +kernel
theorem dX3_pass_1 : decode cX3_pass 1 = .ok (.iload_n 1, 1) := by decide +kernel
theorem dX3_pass_2 : decode cX3_pass 2 = .ok (.iconst 1, 1) := by decide +kernel
theorem dX3_pass_3 : decode cX3_pass 3 = .ok (.bipush 100, 2) := by decide +kernel
theorem dX3_pass_5 : decode cX3_pass 5 = .ok (.invokestatic 60, 3) := by decide +kernel
theorem dX3_pass_8 : decode cX3_pass 8 = .ok (.ifCond .ne 7, 3) := by decide +kernel
theorem dX3_pass_11 : decode cX3_pass 11 = .ok (.iconst 1, 1) := by decide +kernel
theorem dX3_pass_12 : decode cX3_pass 12 = .ok (.goto 20, 3) := by decide +kernel
theorem dX3_pass_15 : decode cX3_pass 15 = .ok (.aload_n 0, 1) := by decide +kernel
theorem dX3_pass_16 : decode cX3_pass 16 = .ok (.getfield 81, 3) := by decide +kernel
theorem dX3_pass_19 : decode cX3_pass 19 = .ok (.iload_n 1, 1) := by decide +kernel
theorem dX3_pass_20 : decode cX3_pass 20 = .ok (.iadd, 1) := by decide +kernel
theorem dX3_pass_21 : decode cX3_pass 21 = .ok (.sipush 720, 3) := by decide +kernel
theorem dX3_pass_24 : decode cX3_pass 24 = .ok (.if_icmp .lt 7, 3) := by decide +kernel
theorem dX3_pass_27 : decode cX3_pass 27 = .ok (.iconst 2, 1) := by decide +kernel
theorem dX3_pass_28 : decode cX3_pass 28 = .ok (.goto 4, 3) := by decide +kernel
theorem dX3_pass_31 : decode cX3_pass 31 = .ok (.iconst 0, 1) := by decide +kernel
theorem dX3_pass_32 : decode cX3_pass 32 = .ok (.putfield 56, 3) := by decide +kernel
theorem dX3_pass_35 : decode cX3_pass 35 = .ok (.aload_n 0, 1) := by decide +kernel
theorem dX3_pass_36 : decode cX3_pass 36 = .ok (.dup, 1) := by decide +kernel
theorem dX3_pass_37 : decode cX3_pass 37 = .ok (.getfield 81, 3) := by decide +kernel
theorem dX3_pass_40 : decode cX3_pass 40 = .ok (.aload_n 0, 1) := by decide +kernel
theorem dX3_pass_41 : decode cX3_pass 41 = .ok (.getfield 56, 3) := by decide +kernel
theorem dX3_pass_44 : decode cX3_pass 44 = .ok (.ifCond .ne 7, 3) := by decide +kernel
theorem dX3_pass_47 : decode cX3_pass 47 = .ok (.iload_n 1, 1) := by decide +kernel
theorem dX3_pass_48 : decode cX3_pass 48 = .ok (.goto 4, 3) := by decide +kernel
theorem dX3_pass_51 : decode cX3_pass 51 = .ok (.iconst 0, 1) := by decide +kernel
theorem dX3_pass_52 : decode cX3_pass 52 = .ok (.iadd, 1) := by decide +kernel
theorem dX3_pass_53 : decode cX3_pass 53 = .ok (.putfield 81, 3) := by decide +kernel
theorem dX3_pass_56 : decode cX3_pass 56 = .ok (.aload_n 0, 1) := by decide +kernel
theorem dX3_pass_57 : decode cX3_pass 57 = .ok (.getfield 56, 3) := by decide +kernel
theorem dX3_pass_60 : decode cX3_pass 60 = .ok (.ifCond .le 7, 3) := by decide +kernel
theorem dX3_pass_63 : decode cX3_pass 63 = .ok (.iconst 0, 1) := by decide +kernel
theorem dX3_pass_64 : decode cX3_pass 64 = .ok (.goto 7, 3) := by decide +kernel
theorem dX3_pass_67 : decode cX3_pass 67 = .ok (.aload_n 0, 1) := by decide +kernel
theorem dX3_pass_68 : decode cX3_pass 68 = .ok (.getfield 81, 3) := by decide +kernel
theorem dX3_pass_71 : decode cX3_pass 71 = .ok (.ireturn, 1) := by decide +kernel
theorem dX3_today_0 : decode cX3_today 0 = .ok (.aload_n 0, 1) := by decide +kernel
theorem dX3_today_1 : decode cX3_today 1 = .ok (.iconst 0, 1) := by decide +kernel
theorem dX3_today_2 : decode cX3_today 2 = .ok (.putfield 56, 3) := by decide +kernel
theorem dX3_today_5 : decode cX3_today 5 = .ok (.aload_n 0, 1) := by decide +kernel
theorem dX3_today_6 : decode cX3_today 6 = .ok (.getfield 81, 3) := by decide +kernel
theorem dX3_today_9 : decode cX3_today 9 = .ok (.ireturn, 1) := by decide +kernel
theorem dX3_addRule_0 : decode cX3_addRule 0 = .ok (.iload_n 1, 1) := by decide +kernel
theorem dX3_addRule_1 : decode cX3_addRule 1 = .ok (.iconst 1, 1) := by decide +kernel
theorem dX3_addRule_2 : decode cX3_addRule 2 = .ok (.if_icmp .ne 7, 3) := by decide +kernel
theorem dX3_addRule_5 : decode cX3_addRule 5 = .ok (.iconst 0, 1) := by decide +kernel
theorem dX3_addRule_6 : decode cX3_addRule 6 = .ok (.goto 4, 3) := by decide +kernel
theorem dX3_addRule_9 : decode cX3_addRule 9 = .ok (.iconst 1, 1) := by decide +kernel
theorem dX3_addRule_10 : decode cX3_addRule 10 = .ok (.istore 7, 2) := by decide +kernel
theorem dX3_addRule_12 : decode cX3_addRule 12 = .ok (.iload_n 1, 1) := by decide +kernel
theorem dX3_addRule_13 : decode cX3_addRule 13 = .ok (.ifCond .ne 8, 3) := by decide +kernel
theorem dX3_addRule_16 : decode cX3_addRule 16 = .ok (.bipush 60, 2) := by decide +kernel
theorem dX3_addRule_18 : decode cX3_addRule 18 = .ok (.goto 15, 3) := by decide +kernel
theorem dX3_addRule_21 : decode cX3_addRule 21 = .ok (.iload_n 1, 1) := by decide +kernel
theorem dX3_addRule_22 : decode cX3_addRule 22 = .ok (.iconst 1, 1) := by decide +kernel
theorem dX3_addRule_23 : decode cX3_addRule 23 = .ok (.if_icmp .ne 8, 3) := by decide +kernel
theorem dX3_addRule_26 : decode cX3_addRule 26 = .ok (.bipush 29, 2) := by decide +kernel
theorem dX3_addRule_28 : decode cX3_addRule 28 = .ok (.goto 5, 3) := by decide +kernel
theorem dX3_addRule_31 : decode cX3_addRule 31 = .ok (.bipush 22, 2) := by decide +kernel
theorem dX3_addRule_33 : decode cX3_addRule 33 = .ok (.istore 8, 2) := by decide +kernel
theorem dX3_addRule_35 : decode cX3_addRule 35 = .ok (.iload_n 1, 1) := by decide +kernel
theorem dX3_addRule_36 : decode cX3_addRule 36 = .ok (.iconst 0, 1) := by decide +kernel
theorem dX3_addRule_37 : decode cX3_addRule 37 = .ok (.iconst 3, 1) := by decide +kernel
theorem dX3_addRule_38 : decode cX3_addRule 38 = .ok (.invokestatic 60, 3) := by decide +kernel
theorem dX3_addRule_41 : decode cX3_addRule 41 = .ok (.ifCond .eq 49, 3) := by decide +kernel
theorem dX3_addRule_44 : decode cX3_addRule 44 = .ok (.iload_n 2, 1) := by decide +kernel
theorem dX3_addRule_45 : decode cX3_addRule 45 = .ok (.iload 7, 2) := by decide +kernel
theorem dX3_addRule_47 : decode cX3_addRule 47 = .ok (.iload 8, 2) := by decide +kernel
theorem dX3_addRule_49 : decode cX3_addRule 49 = .ok (.invokestatic 60, 3) := by decide +kernel
theorem dX3_addRule_52 : decode cX3_addRule 52 = .ok (.ifCond .eq 38, 3) := by decide +kernel
theorem dX3_addRule_55 : decode cX3_addRule 55 = .ok (.iload_n 3, 1) := by decide +kernel
theorem dX3_addRule_56 : decode cX3_addRule 56 = .ok (.iconst 0, 1) := by decide +kernel
theorem dX3_addRule_57 : decode cX3_addRule 57 = .ok (.iconst 2, 1) := by decide +kernel
theorem dX3_addRule_58 : decode cX3_addRule 58 = .ok (.invokestatic 60, 3) := by decide +kernel
theorem dX3_addRule_61 : decode cX3_addRule 61 = .ok (.ifCond .eq 29, 3) := by decide +kernel
theorem dX3_addRule_64 : decode cX3_addRule 64 = .ok (.iload 5, 2) := by decide +kernel
theorem dX3_addRule_66 : decode cX3_addRule 66 = .ok (.iconst 1, 1) := by decide +kernel
theorem dX3_addRule_67 : decode cX3_addRule 67 = .ok (.bipush 9, 2) := by decide +kernel
theorem dX3_addRule_69 : decode cX3_addRule 69 = .ok (.invokestatic 60, 3) := by decide +kernel
theorem dX3_addRule_72 : decode cX3_addRule 72 = .ok (.ifCond .eq 18, 3) := by decide +kernel
theorem dX3_addRule_75 : decode cX3_addRule 75 = .ok (.iload 6, 2) := by decide +kernel
theorem dX3_addRule_77 : decode cX3_addRule 77 = .ok (.iconst 0, 1) := by decide +kernel
theorem dX3_addRule_78 : decode cX3_addRule 78 = .ok (.bipush 99, 2) := by decide +kernel
theorem dX3_addRule_80 : decode cX3_addRule 80 = .ok (.invokestatic 60, 3) := by decide +kernel
theorem dX3_addRule_83 : decode cX3_addRule 83 = .ok (.ifCond .eq 7, 3) := by decide +kernel
theorem dX3_addRule_86 : decode cX3_addRule 86 = .ok (.iconst 1, 1) := by decide +kernel
theorem dX3_addRule_87 : decode cX3_addRule 87 = .ok (.goto 4, 3) := by decide +kernel
theorem dX3_addRule_90 : decode cX3_addRule 90 = .ok (.iconst 0, 1) := by decide +kernel
theorem dX3_addRule_91 : decode cX3_addRule 91 = .ok (.istore 9, 2) := by decide +kernel
theorem dX3_addRule_93 : decode cX3_addRule 93 = .ok (.aload_n 0, 1) := by decide +kernel
theorem dX3_addRule_94 : decode cX3_addRule 94 = .ok (.iload 4, 2) := by decide +kernel
theorem dX3_addRule_96 : decode cX3_addRule 96 = .ok (.invokestatic 67, 3) := by decide +kernel
theorem dX3_addRule_99 : decode cX3_addRule 99 = .ok (.ifCond .ne 7, 3) := by decide +kernel
theorem dX3_addRule_102 : decode cX3_addRule 102 = .ok (.iconst 1, 1) := by decide +kernel
theorem dX3_addRule_103 : decode cX3_addRule 103 = .ok (.goto 26, 3) := by decide +kernel
theorem dX3_addRule_106 : decode cX3_addRule 106 = .ok (.iload 9, 2) := by decide +kernel
theorem dX3_addRule_108 : decode cX3_addRule 108 = .ok (.ifCond .ne 7, 3) := by decide +kernel
theorem dX3_addRule_111 : decode cX3_addRule 111 = .ok (.iconst 2, 1) := by decide +kernel
theorem dX3_addRule_112 : decode cX3_addRule 112 = .ok (.goto 17, 3) := by decide +kernel
theorem dX3_addRule_115 : decode cX3_addRule 115 = .ok (.aload_n 0, 1) := by decide +kernel
theorem dX3_addRule_116 : decode cX3_addRule 116 = .ok (.getfield 64, 3) := by decide +kernel
theorem dX3_addRule_119 : decode cX3_addRule 119 = .ok (.bipush 8, 2) := by decide +kernel
theorem dX3_addRule_121 : decode cX3_addRule 121 = .ok (.if_icmp .ne 7, 3) := by decide +kernel
theorem dX3_addRule_124 : decode cX3_addRule 124 = .ok (.iconst 3, 1) := by decide +kernel
theorem dX3_addRule_125 : decode cX3_addRule 125 = .ok (.goto 4, 3) := by decide +kernel
theorem dX3_addRule_128 : decode cX3_addRule 128 = .ok (.iconst 0, 1) := by decide +kernel
theorem dX3_addRule_129 : decode cX3_addRule 129 = .ok (.putfield 56, 3) := by decide +kernel
theorem dX3_addRule_132 : decode cX3_addRule 132 = .ok (.aload_n 0, 1) := by decide +kernel
theorem dX3_addRule_133 : decode cX3_addRule 133 = .ok (.getfield 56, 3) := by decide +kernel
theorem dX3_addRule_136 : decode cX3_addRule 136 = .ok (.ifCond .le 5, 3) := by decide +kernel
theorem dX3_addRule_139 : decode cX3_addRule 139 = .ok (.iconst 0, 1) := by decide +kernel
theorem dX3_addRule_140 : decode cX3_addRule 140 = .ok (.ireturn, 1) := by decide +kernel
theorem dX3_addRule_141 : decode cX3_addRule 141 = .ok (.aload_n 0, 1) := by decide +kernel
theorem dX3_addRule_142 : decode cX3_addRule 142 = .ok (.getfield 13, 3) := by decide +kernel
theorem dX3_addRule_145 : decode cX3_addRule 145 = .ok (.aload_n 0, 1) := by decide +kernel
theorem dX3_addRule_146 : decode cX3_addRule 146 = .ok (.getfield 64, 3) := by decide +kernel
theorem dX3_addRule_149 : decode cX3_addRule 149 = .ok (.iload_n 1, 1) := by decide +kernel
theorem dX3_addRule_150 : decode cX3_addRule 150 = .ok (.iastore, 1) := by decide +kernel
theorem dX3_addRule_151 : decode cX3_addRule 151 = .ok (.aload_n 0, 1) := by decide +kernel
theorem dX3_addRule_152 : decode cX3_addRule 152 = .ok (.getfield 17, 3) := by decide +kernel
theorem dX3_addRule_155 : decode cX3_addRule 155 = .ok (.aload_n 0, 1) := by decide +kernel
theorem dX3_addRule_156 : decode cX3_addRule 156 = .ok (.getfield 64, 3) := by decide +kernel
theorem dX3_addRule_159 : decode cX3_addRule 159 = .ok (.iload_n 2, 1) := by decide +kernel
theorem dX3_addRule_160 : decode cX3_addRule 160 = .ok (.iastore, 1) := by decide +kernel
theorem dX3_addRule_161 : decode cX3_addRule 161 = .ok (.aload_n 0, 1) := by decide +kernel
theorem dX3_addRule_162 : decode cX3_addRule 162 = .ok (.getfield 20, 3) := by decide +kernel
theorem dX3_addRule_165 : decode cX3_addRule 165 = .ok (.aload_n 0, 1) := by decide +kernel
theorem dX3_addRule_166 : decode cX3_addRule 166 = .ok (.getfield 64, 3) := by decide +kernel
theorem dX3_addRule_169 : decode cX3_addRule 169 = .ok (.iload_n 3, 1) := by decide +kernel
theorem dX3_addRule_170 : decode cX3_addRule 170 = .ok (.iastore, 1) := by decide +kernel
theorem dX3_addRule_171 : decode cX3_addRule 171 = .ok (.aload_n 0, 1) := by decide +kernel
theorem dX3_addRule_172 : decode cX3_addRule 172 = .ok (.getfield 23, 3) := by decide +kernel
theorem dX3_addRule_175 : decode cX3_addRule 175 = .ok (.aload_n 0, 1) := by decide +kernel
theorem dX3_addRule_176 : decode cX3_addRule 176 = .ok (.getfield 64, 3) := by decide +kernel
theorem dX3_addRule_179 : decode cX3_addRule 179 = .ok (.iload 4, 2) := by decide +kernel
theorem dX3_addRule_181 : decode cX3_addRule 181 = .ok (.iastore, 1) := by decide +kernel
theorem dX3_addRule_182 : decode cX3_addRule 182 = .ok (.aload_n 0, 1) := by decide +kernel
theorem dX3_addRule_183 : decode cX3_addRule 183 = .ok (.getfield 26, 3) := by decide +kernel
theorem dX3_addRule_186 : decode cX3_addRule 186 = .ok (.aload_n 0, 1) := by decide +kernel
theorem dX3_addRule_187 : decode cX3_addRule 187 = .ok (.getfield 64, 3) := by decide +kernel
theorem dX3_addRule_190 : decode cX3_addRule 190 = .ok (.iload 5, 2) := by decide +kernel
theorem dX3_addRule_192 : decode cX3_addRule 192 = .ok (.iastore, 1) := by decide +kernel
theorem dX3_addRule_193 : decode cX3_addRule 193 = .ok (.aload_n 0, 1) := by decide +kernel
theorem dX3_addRule_194 : decode cX3_addRule 194 = .ok (.getfield 29, 3) := by decide +kernel
theorem dX3_addRule_197 : decode cX3_addRule 197 = .ok (.aload_n 0, 1) := by decide +kernel
theorem dX3_addRule_198 : decode cX3_addRule 198 = .ok (.getfield 64, 3) := by decide +kernel
theorem dX3_addRule_201 : decode cX3_addRule 201 = .ok (.iload 6, 2) := by decide +kernel
theorem dX3_addRule_203 : decode cX3_addRule 203 = .ok (.iastore, 1) := by decide +kernel
theorem dX3_addRule_204 : decode cX3_addRule 204 = .ok (.aload_n 0, 1) := by decide +kernel
theorem dX3_addRule_205 : decode cX3_addRule 205 = .ok (.dup, 1) := by decide +kernel
theorem dX3_addRule_206 : decode cX3_addRule 206 = .ok (.getfield 64, 3) := by decide +kernel
theorem dX3_addRule_209 : decode cX3_addRule 209 = .ok (.iconst 1, 1) := by decide +kernel
theorem dX3_addRule_210 : decode cX3_addRule 210 = .ok (.iadd, 1) := by decide +kernel
theorem dX3_addRule_211 : decode cX3_addRule 211 = .ok (.putfield 64, 3) := by decide +kernel
theorem dX3_addRule_214 : decode cX3_addRule 214 = .ok (.aload_n 0, 1) := by decide +kernel
theorem dX3_addRule_215 : decode cX3_addRule 215 = .ok (.getfield 64, 3) := by decide +kernel
theorem dX3_addRule_218 : decode cX3_addRule 218 = .ok (.iconst 1, 1) := by decide +kernel
theorem dX3_addRule_219 : decode cX3_addRule 219 = .ok (.isub, 1) := by decide +kernel
theorem dX3_addRule_220 : decode cX3_addRule 220 = .ok (.ireturn, 1) := by decide +kernel
theorem dX3_setShift_0 : decode cX3_setShift 0 = .ok (.aload_n 0, 1) := by decide +kernel
theorem dX3_setShift_1 : decode cX3_setShift 1 = .ok (.aload_n 0, 1) := by decide +kernel
theorem dX3_setShift_2 : decode cX3_setShift 2 = .ok (.iload_n 1, 1) := by decide +kernel
theorem dX3_setShift_3 : decode cX3_setShift 3 = .ok (.invokevirtual 84, 3) := by decide +kernel
theorem dX3_setShift_6 : decode cX3_setShift 6 = .ok (.ifCond .ne 7, 3) := by decide +kernel
theorem dX3_setShift_9 : decode cX3_setShift 9 = .ok (.iconst 1, 1) := by decide +kernel
theorem dX3_setShift_10 : decode cX3_setShift 10 = .ok (.goto 17, 3) := by decide +kernel
theorem dX3_setShift_13 : decode cX3_setShift 13 = .ok (.iload_n 2, 1) := by decide +kernel
theorem dX3_setShift_14 : decode cX3_setShift 14 = .ok (.iconst 0, 1) := by decide +kernel
theorem dX3_setShift_15 : decode cX3_setShift 15 = .ok (.iconst 2, 1) := by decide +kernel
theorem dX3_setShift_16 : decode cX3_setShift 16 = .ok (.invokestatic 60, 3) := by decide +kernel
theorem dX3_setShift_19 : decode cX3_setShift 19 = .ok (.ifCond .eq 7, 3) := by decide +kernel
theorem dX3_setShift_22 : decode cX3_setShift 22 = .ok (.iconst 0, 1) := by decide +kernel
theorem dX3_setShift_23 : decode cX3_setShift 23 = .ok (.goto 4, 3) := by decide +kernel
theorem dX3_setShift_26 : decode cX3_setShift 26 = .ok (.iconst 2, 1) := by decide +kernel
theorem dX3_setShift_27 : decode cX3_setShift 27 = .ok (.putfield 56, 3) := by decide +kernel
theorem dX3_setShift_30 : decode cX3_setShift 30 = .ok (.aload_n 0, 1) := by decide +kernel
theorem dX3_setShift_31 : decode cX3_setShift 31 = .ok (.getfield 56, 3) := by decide +kernel
theorem dX3_setShift_34 : decode cX3_setShift 34 = .ok (.ifCond .le 5, 3) := by decide +kernel
theorem dX3_setShift_37 : decode cX3_setShift 37 = .ok (.iconst 0, 1) := by decide +kernel
theorem dX3_setShift_38 : decode cX3_setShift 38 = .ok (.ireturn, 1) := by decide +kernel
theorem dX3_setShift_39 : decode cX3_setShift 39 = .ok (.aload_n 0, 1) := by decide +kernel
theorem dX3_setShift_40 : decode cX3_setShift 40 = .ok (.getfield 20, 3) := by decide +kernel
theorem dX3_setShift_43 : decode cX3_setShift 43 = .ok (.iload_n 1, 1) := by decide +kernel
theorem dX3_setShift_44 : decode cX3_setShift 44 = .ok (.iaload, 1) := by decide +kernel
theorem dX3_setShift_45 : decode cX3_setShift 45 = .ok (.istore_n 3, 1) := by decide +kernel
theorem dX3_setShift_46 : decode cX3_setShift 46 = .ok (.aload_n 0, 1) := by decide +kernel
theorem dX3_setShift_47 : decode cX3_setShift 47 = .ok (.getfield 20, 3) := by decide +kernel
theorem dX3_setShift_50 : decode cX3_setShift 50 = .ok (.iload_n 1, 1) := by decide +kernel
theorem dX3_setShift_51 : decode cX3_setShift 51 = .ok (.iload_n 2, 1) := by decide +kernel
theorem dX3_setShift_52 : decode cX3_setShift 52 = .ok (.iastore, 1) := by decide +kernel
theorem dX3_setShift_53 : decode cX3_setShift 53 = .ok (.iload_n 3, 1) := by decide +kernel
theorem dX3_setShift_54 : decode cX3_setShift 54 = .ok (.ireturn, 1) := by decide +kernel
theorem dX3_reaches_0 : decode cX3_reaches 0 = .ok (.iconst 1, 1) := by decide +kernel
theorem dX3_reaches_1 : decode cX3_reaches 1 = .ok (.iload_n 1, 1) := by decide +kernel
theorem dX3_reaches_2 : decode cX3_reaches 2 = .ok (.ishl, 1) := by decide +kernel
theorem dX3_reaches_3 : decode cX3_reaches 3 = .ok (.istore_n 3, 1) := by decide +kernel
theorem dX3_reaches_4 : decode cX3_reaches 4 = .ok (.iconst 0, 1) := by decide +kernel
theorem dX3_reaches_5 : decode cX3_reaches 5 = .ok (.istore 4, 2) := by decide +kernel
theorem dX3_reaches_7 : decode cX3_reaches 7 = .ok (.iload_n 3, 1) := by decide +kernel
theorem dX3_reaches_8 : decode cX3_reaches 8 = .ok (.iload 4, 2) := by decide +kernel
theorem dX3_reaches_10 : decode cX3_reaches 10 = .ok (.if_icmp .eq 82, 3) := by decide +kernel
theorem dX3_reaches_13 : decode cX3_reaches 13 = .ok (.iload_n 3, 1) := by decide +kernel
theorem dX3_reaches_14 : decode cX3_reaches 14 = .ok (.istore 4, 2) := by decide +kernel
theorem dX3_reaches_16 : decode cX3_reaches 16 = .ok (.iconst 0, 1) := by decide +kernel
theorem dX3_reaches_17 : decode cX3_reaches 17 = .ok (.istore 5, 2) := by decide +kernel
theorem dX3_reaches_19 : decode cX3_reaches 19 = .ok (.iload 5, 2) := by decide +kernel
theorem dX3_reaches_21 : decode cX3_reaches 21 = .ok (.aload_n 0, 1) := by decide +kernel
theorem dX3_reaches_22 : decode cX3_reaches 22 = .ok (.getfield 64, 3) := by decide +kernel
theorem dX3_reaches_25 : decode cX3_reaches 25 = .ok (.if_icmp .ge 64, 3) := by decide +kernel
theorem dX3_reaches_28 : decode cX3_reaches 28 = .ok (.iconst 0, 1) := by decide +kernel
theorem dX3_reaches_29 : decode cX3_reaches 29 = .ok (.istore 6, 2) := by decide +kernel
theorem dX3_reaches_31 : decode cX3_reaches 31 = .ok (.iload 6, 2) := by decide +kernel
theorem dX3_reaches_33 : decode cX3_reaches 33 = .ok (.aload_n 0, 1) := by decide +kernel
theorem dX3_reaches_34 : decode cX3_reaches 34 = .ok (.getfield 64, 3) := by decide +kernel
theorem dX3_reaches_37 : decode cX3_reaches 37 = .ok (.if_icmp .ge 46, 3) := by decide +kernel
theorem dX3_reaches_40 : decode cX3_reaches 40 = .ok (.iload_n 3, 1) := by decide +kernel
theorem dX3_reaches_41 : decode cX3_reaches 41 = .ok (.iload_n 3, 1) := by decide +kernel
theorem dX3_reaches_42 : decode cX3_reaches 42 = .ok (.iload 5, 2) := by decide +kernel
theorem dX3_reaches_44 : decode cX3_reaches 44 = .ok (.ishr, 1) := by decide +kernel
theorem dX3_reaches_45 : decode cX3_reaches 45 = .ok (.iconst 2, 1) := by decide +kernel
theorem dX3_reaches_46 : decode cX3_reaches 46 = .ok (.irem, 1) := by decide +kernel
theorem dX3_reaches_47 : decode cX3_reaches 47 = .ok (.iconst 1, 1) := by decide +kernel
theorem dX3_reaches_48 : decode cX3_reaches 48 = .ok (.if_icmp .ne 26, 3) := by decide +kernel
theorem dX3_reaches_51 : decode cX3_reaches 51 = .ok (.aload_n 0, 1) := by decide +kernel
theorem dX3_reaches_52 : decode cX3_reaches 52 = .ok (.getfield 38, 3) := by decide +kernel
theorem dX3_reaches_55 : decode cX3_reaches 55 = .ok (.bipush 8, 2) := by decide +kernel
theorem dX3_reaches_57 : decode cX3_reaches 57 = .ok (.iload 5, 2) := by decide +kernel
theorem dX3_reaches_59 : decode cX3_reaches 59 = .ok (.imul, 1) := by decide +kernel
theorem dX3_reaches_60 : decode cX3_reaches 60 = .ok (.iload 6, 2) := by decide +kernel
theorem dX3_reaches_62 : decode cX3_reaches 62 = .ok (.iadd, 1) := by decide +kernel
theorem dX3_reaches_63 : decode cX3_reaches 63 = .ok (.baload, 1) := by decide +kernel
theorem dX3_reaches_64 : decode cX3_reaches 64 = .ok (.ifCond .eq 10, 3) := by decide +kernel
theorem dX3_reaches_67 : decode cX3_reaches 67 = .ok (.iconst 1, 1) := by decide +kernel
theorem dX3_reaches_68 : decode cX3_reaches 68 = .ok (.iload 6, 2) := by decide +kernel
theorem dX3_reaches_70 : decode cX3_reaches 70 = .ok (.ishl, 1) := by decide +kernel
theorem dX3_reaches_71 : decode cX3_reaches 71 = .ok (.goto 4, 3) := by decide +kernel
theorem dX3_reaches_74 : decode cX3_reaches 74 = .ok (.iconst 0, 1) := by decide +kernel
theorem dX3_reaches_75 : decode cX3_reaches 75 = .ok (.ior, 1) := by decide +kernel
theorem dX3_reaches_76 : decode cX3_reaches 76 = .ok (.istore_n 3, 1) := by decide +kernel
theorem dX3_reaches_77 : decode cX3_reaches 77 = .ok (.iinc 6 1, 3) := by decide +kernel
theorem dX3_reaches_80 : decode cX3_reaches 80 = .ok (.goto (-49), 3) := by decide +kernel
theorem dX3_reaches_83 : decode cX3_reaches 83 = .ok (.iinc 5 1, 3) := by decide +kernel
theorem dX3_reaches_86 : decode cX3_reaches 86 = .ok (.goto (-67), 3) := by decide +kernel
theorem dX3_reaches_89 : decode cX3_reaches 89 = .ok (.goto (-82), 3) := by decide +kernel
theorem dX3_reaches_92 : decode cX3_reaches 92 = .ok (.iload_n 3, 1) := by decide +kernel
theorem dX3_reaches_93 : decode cX3_reaches 93 = .ok (.iload_n 2, 1) := by decide +kernel
theorem dX3_reaches_94 : decode cX3_reaches 94 = .ok (.ishr, 1) := by decide +kernel
theorem dX3_reaches_95 : decode cX3_reaches 95 = .ok (.iconst 2, 1) := by decide +kernel
theorem dX3_reaches_96 : decode cX3_reaches 96 = .ok (.irem, 1) := by decide +kernel
theorem dX3_reaches_97 : decode cX3_reaches 97 = .ok (.iconst 1, 1) := by decide +kernel
theorem dX3_reaches_98 : decode cX3_reaches 98 = .ok (.if_icmp .ne 7, 3) := by decide +kernel
theorem dX3_reaches_101 : decode cX3_reaches 101 = .ok (.iconst 1, 1) := by decide +kernel
theorem dX3_reaches_102 : decode cX3_reaches 102 = .ok (.goto 4, 3) := by decide +kernel
theorem dX3_reaches_105 : decode cX3_reaches 105 = .ok (.iconst 0, 1) := by decide +kernel
theorem dX3_reaches_106 : decode cX3_reaches 106 = .ok (.ireturn, 1) := by decide +kernel
theorem dX3_require_0 : decode cX3_require 0 = .ok (.aload_n 0, 1) := by decide +kernel
theorem dX3_require_1 : decode cX3_require 1 = .ok (.aload_n 0, 1) := by decide +kernel
theorem dX3_require_2 : decode cX3_require 2 = .ok (.iload_n 1, 1) := by decide +kernel
theorem dX3_require_3 : decode cX3_require 3 = .ok (.invokevirtual 84, 3) := by decide +kernel
theorem dX3_require_6 : decode cX3_require 6 = .ok (.ifCond .eq 11, 3) := by decide +kernel
theorem dX3_require_9 : decode cX3_require 9 = .ok (.aload_n 0, 1) := by decide +kernel
theorem dX3_require_10 : decode cX3_require 10 = .ok (.iload_n 2, 1) := by decide +kernel
theorem dX3_require_11 : decode cX3_require 11 = .ok (.invokevirtual 84, 3) := by decide +kernel
theorem dX3_require_14 : decode cX3_require 14 = .ok (.ifCond .ne 7, 3) := by decide +kernel
theorem dX3_require_17 : decode cX3_require 17 = .ok (.iconst 1, 1) := by decide +kernel
theorem dX3_require_18 : decode cX3_require 18 = .ok (.goto 17, 3) := by decide +kernel
theorem dX3_require_21 : decode cX3_require 21 = .ok (.aload_n 0, 1) := by decide +kernel
theorem dX3_require_22 : decode cX3_require 22 = .ok (.iload_n 2, 1) := by decide +kernel
theorem dX3_require_23 : decode cX3_require 23 = .ok (.iload_n 1, 1) := by decide +kernel
theorem dX3_require_24 : decode cX3_require 24 = .ok (.invokevirtual 87, 3) := by decide +kernel
theorem dX3_require_27 : decode cX3_require 27 = .ok (.ifCond .eq 7, 3) := by decide +kernel
theorem dX3_require_30 : decode cX3_require 30 = .ok (.iconst 2, 1) := by decide +kernel
theorem dX3_require_31 : decode cX3_require 31 = .ok (.goto 4, 3) := by decide +kernel
theorem dX3_require_34 : decode cX3_require 34 = .ok (.iconst 0, 1) := by decide +kernel
theorem dX3_require_35 : decode cX3_require 35 = .ok (.putfield 56, 3) := by decide +kernel
theorem dX3_require_38 : decode cX3_require 38 = .ok (.aload_n 0, 1) := by decide +kernel
theorem dX3_require_39 : decode cX3_require 39 = .ok (.getfield 56, 3) := by decide +kernel
theorem dX3_require_42 : decode cX3_require 42 = .ok (.ifCond .le 5, 3) := by decide +kernel
theorem dX3_require_45 : decode cX3_require 45 = .ok (.iconst 0, 1) := by decide +kernel
theorem dX3_require_46 : decode cX3_require 46 = .ok (.ireturn, 1) := by decide +kernel
theorem dX3_require_47 : decode cX3_require 47 = .ok (.aload_n 0, 1) := by decide +kernel
theorem dX3_require_48 : decode cX3_require 48 = .ok (.getfield 38, 3) := by decide +kernel
theorem dX3_require_51 : decode cX3_require 51 = .ok (.bipush 8, 2) := by decide +kernel
theorem dX3_require_53 : decode cX3_require 53 = .ok (.iload_n 1, 1) := by decide +kernel
theorem dX3_require_54 : decode cX3_require 54 = .ok (.imul, 1) := by decide +kernel
theorem dX3_require_55 : decode cX3_require 55 = .ok (.iload_n 2, 1) := by decide +kernel
theorem dX3_require_56 : decode cX3_require 56 = .ok (.iadd, 1) := by decide +kernel
theorem dX3_require_57 : decode cX3_require 57 = .ok (.baload, 1) := by decide +kernel
theorem dX3_require_58 : decode cX3_require 58 = .ok (.istore_n 3, 1) := by decide +kernel
theorem dX3_require_59 : decode cX3_require 59 = .ok (.aload_n 0, 1) := by decide +kernel
theorem dX3_require_60 : decode cX3_require 60 = .ok (.getfield 38, 3) := by decide +kernel
theorem dX3_require_63 : decode cX3_require 63 = .ok (.bipush 8, 2) := by decide +kernel
theorem dX3_require_65 : decode cX3_require 65 = .ok (.iload_n 1, 1) := by decide +kernel
theorem dX3_require_66 : decode cX3_require 66 = .ok (.imul, 1) := by decide +kernel
theorem dX3_require_67 : decode cX3_require 67 = .ok (.iload_n 2, 1) := by decide +kernel
theorem dX3_require_68 : decode cX3_require 68 = .ok (.iadd, 1) := by decide +kernel
theorem dX3_require_69 : decode cX3_require 69 = .ok (.iconst 1, 1) := by decide +kernel
theorem dX3_require_70 : decode cX3_require 70 = .ok (.bastore, 1) := by decide +kernel
theorem dX3_require_71 : decode cX3_require 71 = .ok (.iload_n 3, 1) := by decide +kernel
theorem dX3_require_72 : decode cX3_require 72 = .ok (.ifCond .ne 7, 3) := by decide +kernel
theorem dX3_require_75 : decode cX3_require 75 = .ok (.iconst 1, 1) := by decide +kernel
theorem dX3_require_76 : decode cX3_require 76 = .ok (.goto 4, 3) := by decide +kernel
theorem dX3_require_79 : decode cX3_require 79 = .ok (.iconst 0, 1) := by decide +kernel
theorem dX3_require_80 : decode cX3_require 80 = .ok (.ireturn, 1) := by decide +kernel
theorem dX3_rules_0 : decode cX3_rules 0 = .ok (.aload_n 0, 1) := by decide +kernel
theorem dX3_rules_1 : decode cX3_rules 1 = .ok (.iconst 0, 1) := by decide +kernel
theorem dX3_rules_2 : decode cX3_rules 2 = .ok (.putfield 56, 3) := by decide +kernel
theorem dX3_rules_5 : decode cX3_rules 5 = .ok (.aload_n 0, 1) := by decide +kernel
theorem dX3_rules_6 : decode cX3_rules 6 = .ok (.getfield 64, 3) := by decide +kernel
theorem dX3_rules_9 : decode cX3_rules 9 = .ok (.ireturn, 1) := by decide +kernel
theorem dX3_isNominal_0 : decode cX3_isNominal 0 = .ok (.aload_n 0, 1) := by decide +kernel
theorem dX3_isNominal_1 : decode cX3_isNominal 1 = .ok (.getfield 17, 3) := by decide +kernel
theorem dX3_isNominal_4 : decode cX3_isNominal 4 = .ok (.iload_n 1, 1) := by decide +kernel
theorem dX3_isNominal_5 : decode cX3_isNominal 5 = .ok (.iaload, 1) := by decide +kernel
theorem dX3_isNominal_6 : decode cX3_isNominal 6 = .ok (.istore_n 3, 1) := by decide +kernel
theorem dX3_isNominal_7 : decode cX3_isNominal 7 = .ok (.iload_n 2, 1) := by decide +kernel
theorem dX3_isNominal_8 : decode cX3_isNominal 8 = .ok (.bipush 30, 2) := by decide +kernel
theorem dX3_isNominal_10 : decode cX3_isNominal 10 = .ok (.idiv, 1) := by decide +kernel
theorem dX3_isNominal_11 : decode cX3_isNominal 11 = .ok (.bipush 30, 2) := by decide +kernel
theorem dX3_isNominal_13 : decode cX3_isNominal 13 = .ok (.imul, 1) := by decide +kernel
theorem dX3_isNominal_14 : decode cX3_isNominal 14 = .ok (.istore 4, 2) := by decide +kernel
theorem dX3_isNominal_16 : decode cX3_isNominal 16 = .ok (.iload_n 2, 1) := by decide +kernel
theorem dX3_isNominal_17 : decode cX3_isNominal 17 = .ok (.aload_n 0, 1) := by decide +kernel
theorem dX3_isNominal_18 : decode cX3_isNominal 18 = .ok (.getfield 23, 3) := by decide +kernel
theorem dX3_isNominal_21 : decode cX3_isNominal 21 = .ok (.iload_n 1, 1) := by decide +kernel
theorem dX3_isNominal_22 : decode cX3_isNominal 22 = .ok (.iaload, 1) := by decide +kernel
theorem dX3_isNominal_23 : decode cX3_isNominal 23 = .ok (.if_icmp .ge 5, 3) := by decide +kernel
theorem dX3_isNominal_26 : decode cX3_isNominal 26 = .ok (.iconst 0, 1) := by decide +kernel
theorem dX3_isNominal_27 : decode cX3_isNominal 27 = .ok (.ireturn, 1) := by decide +kernel
theorem dX3_isNominal_28 : decode cX3_isNominal 28 = .ok (.aload_n 0, 1) := by decide +kernel
theorem dX3_isNominal_29 : decode cX3_isNominal 29 = .ok (.getfield 13, 3) := by decide +kernel
theorem dX3_isNominal_32 : decode cX3_isNominal 32 = .ok (.iload_n 1, 1) := by decide +kernel
theorem dX3_isNominal_33 : decode cX3_isNominal 33 = .ok (.iaload, 1) := by decide +kernel
theorem dX3_isNominal_34 : decode cX3_isNominal 34 = .ok (.ifCond .ne 22, 3) := by decide +kernel
theorem dX3_isNominal_37 : decode cX3_isNominal 37 = .ok (.iload_n 2, 1) := by decide +kernel
theorem dX3_isNominal_38 : decode cX3_isNominal 38 = .ok (.aload_n 0, 1) := by decide +kernel
theorem dX3_isNominal_39 : decode cX3_isNominal 39 = .ok (.getfield 23, 3) := by decide +kernel
theorem dX3_isNominal_42 : decode cX3_isNominal 42 = .ok (.iload_n 1, 1) := by decide +kernel
theorem dX3_isNominal_43 : decode cX3_isNominal 43 = .ok (.iaload, 1) := by decide +kernel
theorem dX3_isNominal_44 : decode cX3_isNominal 44 = .ok (.isub, 1) := by decide +kernel
theorem dX3_isNominal_45 : decode cX3_isNominal 45 = .ok (.iload_n 3, 1) := by decide +kernel
theorem dX3_isNominal_46 : decode cX3_isNominal 46 = .ok (.irem, 1) := by decide +kernel
theorem dX3_isNominal_47 : decode cX3_isNominal 47 = .ok (.ifCond .ne 7, 3) := by decide +kernel
theorem dX3_isNominal_50 : decode cX3_isNominal 50 = .ok (.iconst 1, 1) := by decide +kernel
theorem dX3_isNominal_51 : decode cX3_isNominal 51 = .ok (.goto 4, 3) := by decide +kernel
theorem dX3_isNominal_54 : decode cX3_isNominal 54 = .ok (.iconst 0, 1) := by decide +kernel
theorem dX3_isNominal_55 : decode cX3_isNominal 55 = .ok (.ireturn, 1) := by decide +kernel
theorem dX3_isNominal_56 : decode cX3_isNominal 56 = .ok (.aload_n 0, 1) := by decide +kernel
theorem dX3_isNominal_57 : decode cX3_isNominal 57 = .ok (.getfield 13, 3) := by decide +kernel
theorem dX3_isNominal_60 : decode cX3_isNominal 60 = .ok (.iload_n 1, 1) := by decide +kernel
theorem dX3_isNominal_61 : decode cX3_isNominal 61 = .ok (.iaload, 1) := by decide +kernel
theorem dX3_isNominal_62 : decode cX3_isNominal 62 = .ok (.iconst 1, 1) := by decide +kernel
theorem dX3_isNominal_63 : decode cX3_isNominal 63 = .ok (.if_icmp .ne 17, 3) := by decide +kernel
theorem dX3_isNominal_66 : decode cX3_isNominal 66 = .ok (.iload_n 2, 1) := by decide +kernel
theorem dX3_isNominal_67 : decode cX3_isNominal 67 = .ok (.iload 4, 2) := by decide +kernel
theorem dX3_isNominal_69 : decode cX3_isNominal 69 = .ok (.isub, 1) := by decide +kernel
theorem dX3_isNominal_70 : decode cX3_isNominal 70 = .ok (.iload_n 3, 1) := by decide +kernel
theorem dX3_isNominal_71 : decode cX3_isNominal 71 = .ok (.if_icmp .ne 7, 3) := by decide +kernel
theorem dX3_isNominal_74 : decode cX3_isNominal 74 = .ok (.iconst 1, 1) := by decide +kernel
theorem dX3_isNominal_75 : decode cX3_isNominal 75 = .ok (.goto 4, 3) := by decide +kernel
theorem dX3_isNominal_78 : decode cX3_isNominal 78 = .ok (.iconst 0, 1) := by decide +kernel
theorem dX3_isNominal_79 : decode cX3_isNominal 79 = .ok (.ireturn, 1) := by decide +kernel
theorem dX3_isNominal_80 : decode cX3_isNominal 80 = .ok (.aload_n 0, 1) := by decide +kernel
theorem dX3_isNominal_81 : decode cX3_isNominal 81 = .ok (.iload_n 2, 1) := by decide +kernel
theorem dX3_isNominal_82 : decode cX3_isNominal 82 = .ok (.invokevirtual 71, 3) := by decide +kernel
theorem dX3_isNominal_85 : decode cX3_isNominal 85 = .ok (.ifCond .eq 41, 3) := by decide +kernel
theorem dX3_isNominal_88 : decode cX3_isNominal 88 = .ok (.aload_n 0, 1) := by decide +kernel
theorem dX3_isNominal_89 : decode cX3_isNominal 89 = .ok (.getfield 13, 3) := by decide +kernel
theorem dX3_isNominal_92 : decode cX3_isNominal 92 = .ok (.iload_n 1, 1) := by decide +kernel
theorem dX3_isNominal_93 : decode cX3_isNominal 93 = .ok (.iaload, 1) := by decide +kernel
theorem dX3_isNominal_94 : decode cX3_isNominal 94 = .ok (.iconst 2, 1) := by decide +kernel
theorem dX3_isNominal_95 : decode cX3_isNominal 95 = .ok (.if_icmp .ne 13, 3) := by decide +kernel
theorem dX3_isNominal_98 : decode cX3_isNominal 98 = .ok (.aload_n 0, 1) := by decide +kernel
theorem dX3_isNominal_99 : decode cX3_isNominal 99 = .ok (.iload 4, 2) := by decide +kernel
theorem dX3_isNominal_101 : decode cX3_isNominal 101 = .ok (.iload_n 2, 1) := by decide +kernel
theorem dX3_isNominal_102 : decode cX3_isNominal 102 = .ok (.invokevirtual 78, 3) := by decide +kernel
theorem dX3_isNominal_105 : decode cX3_isNominal 105 = .ok (.goto 13, 3) := by decide +kernel
theorem dX3_isNominal_108 : decode cX3_isNominal 108 = .ok (.aload_n 0, 1) := by decide +kernel
theorem dX3_isNominal_109 : decode cX3_isNominal 109 = .ok (.iload_n 2, 1) := by decide +kernel
theorem dX3_isNominal_110 : decode cX3_isNominal 110 = .ok (.iload 4, 2) := by decide +kernel
theorem dX3_isNominal_112 : decode cX3_isNominal 112 = .ok (.bipush 29, 2) := by decide +kernel
theorem dX3_isNominal_114 : decode cX3_isNominal 114 = .ok (.iadd, 1) := by decide +kernel
theorem dX3_isNominal_115 : decode cX3_isNominal 115 = .ok (.invokevirtual 78, 3) := by decide +kernel
theorem dX3_isNominal_118 : decode cX3_isNominal 118 = .ok (.iload_n 3, 1) := by decide +kernel
theorem dX3_isNominal_119 : decode cX3_isNominal 119 = .ok (.if_icmp .ne 7, 3) := by decide +kernel
theorem dX3_isNominal_122 : decode cX3_isNominal 122 = .ok (.iconst 1, 1) := by decide +kernel
theorem dX3_isNominal_123 : decode cX3_isNominal 123 = .ok (.goto 4, 3) := by decide +kernel
theorem dX3_isNominal_126 : decode cX3_isNominal 126 = .ok (.iconst 0, 1) := by decide +kernel
theorem dX3_isNominal_127 : decode cX3_isNominal 127 = .ok (.ireturn, 1) := by decide +kernel
theorem dX3_moved_0 : decode cX3_moved 0 = .ok (.aload_n 0, 1) := by decide +kernel
theorem dX3_moved_1 : decode cX3_moved 1 = .ok (.getfield 20, 3) := by decide +kernel
theorem dX3_moved_4 : decode cX3_moved 4 = .ok (.iload_n 1, 1) := by decide +kernel
theorem dX3_moved_5 : decode cX3_moved 5 = .ok (.iaload, 1) := by decide +kernel
theorem dX3_moved_6 : decode cX3_moved 6 = .ok (.ifCond .ne 7, 3) := by decide +kernel
theorem dX3_moved_9 : decode cX3_moved 9 = .ok (.iconst 1, 1) := by decide +kernel
theorem dX3_moved_10 : decode cX3_moved 10 = .ok (.goto 18, 3) := by decide +kernel
theorem dX3_moved_13 : decode cX3_moved 13 = .ok (.aload_n 0, 1) := by decide +kernel
theorem dX3_moved_14 : decode cX3_moved 14 = .ok (.getfield 20, 3) := by decide +kernel
theorem dX3_moved_17 : decode cX3_moved 17 = .ok (.iload_n 1, 1) := by decide +kernel
theorem dX3_moved_18 : decode cX3_moved 18 = .ok (.iaload, 1) := by decide +kernel
theorem dX3_moved_19 : decode cX3_moved 19 = .ok (.iconst 1, 1) := by decide +kernel
theorem dX3_moved_20 : decode cX3_moved 20 = .ok (.if_icmp .ne 7, 3) := by decide +kernel
theorem dX3_moved_23 : decode cX3_moved 23 = .ok (.iconst (-1), 1) := by decide +kernel
theorem dX3_moved_24 : decode cX3_moved 24 = .ok (.goto 4, 3) := by decide +kernel
theorem dX3_moved_27 : decode cX3_moved 27 = .ok (.iconst 0, 1) := by decide +kernel
theorem dX3_moved_28 : decode cX3_moved 28 = .ok (.istore_n 3, 1) := by decide +kernel
theorem dX3_moved_29 : decode cX3_moved 29 = .ok (.iload_n 2, 1) := by decide +kernel
theorem dX3_moved_30 : decode cX3_moved 30 = .ok (.istore 4, 2) := by decide +kernel
theorem dX3_moved_32 : decode cX3_moved 32 = .ok (.iload 4, 2) := by decide +kernel
theorem dX3_moved_34 : decode cX3_moved 34 = .ok (.invokestatic 67, 3) := by decide +kernel
theorem dX3_moved_37 : decode cX3_moved 37 = .ok (.ifCond .eq 25, 3) := by decide +kernel
theorem dX3_moved_40 : decode cX3_moved 40 = .ok (.aload_n 0, 1) := by decide +kernel
theorem dX3_moved_41 : decode cX3_moved 41 = .ok (.iload 4, 2) := by decide +kernel
theorem dX3_moved_43 : decode cX3_moved 43 = .ok (.invokevirtual 71, 3) := by decide +kernel
theorem dX3_moved_46 : decode cX3_moved 46 = .ok (.ifCond .ne 16, 3) := by decide +kernel
theorem dX3_moved_49 : decode cX3_moved 49 = .ok (.iload_n 3, 1) := by decide +kernel
theorem dX3_moved_50 : decode cX3_moved 50 = .ok (.ifCond .eq 12, 3) := by decide +kernel
theorem dX3_moved_53 : decode cX3_moved 53 = .ok (.iload 4, 2) := by decide +kernel
theorem dX3_moved_55 : decode cX3_moved 55 = .ok (.iload_n 3, 1) := by decide +kernel
theorem dX3_moved_56 : decode cX3_moved 56 = .ok (.iadd, 1) := by decide +kernel
theorem dX3_moved_57 : decode cX3_moved 57 = .ok (.istore 4, 2) := by decide +kernel
theorem dX3_moved_59 : decode cX3_moved 59 = .ok (.goto (-27), 3) := by decide +kernel
theorem dX3_moved_62 : decode cX3_moved 62 = .ok (.iload 4, 2) := by decide +kernel
theorem dX3_moved_64 : decode cX3_moved 64 = .ok (.invokestatic 67, 3) := by decide +kernel
theorem dX3_moved_67 : decode cX3_moved 67 = .ok (.ifCond .eq 17, 3) := by decide +kernel
theorem dX3_moved_70 : decode cX3_moved 70 = .ok (.aload_n 0, 1) := by decide +kernel
theorem dX3_moved_71 : decode cX3_moved 71 = .ok (.iload 4, 2) := by decide +kernel
theorem dX3_moved_73 : decode cX3_moved 73 = .ok (.invokevirtual 71, 3) := by decide +kernel
theorem dX3_moved_76 : decode cX3_moved 76 = .ok (.ifCond .eq 8, 3) := by decide +kernel
theorem dX3_moved_79 : decode cX3_moved 79 = .ok (.iload 4, 2) := by decide +kernel
theorem dX3_moved_81 : decode cX3_moved 81 = .ok (.goto 4, 3) := by decide +kernel
theorem dX3_moved_84 : decode cX3_moved 84 = .ok (.iconst (-1), 1) := by decide +kernel
theorem dX3_moved_85 : decode cX3_moved 85 = .ok (.ireturn, 1) := by decide +kernel
theorem dX3_marks_0 : decode cX3_marks 0 = .ok (.iconst 0, 1) := by decide +kernel
theorem dX3_marks_1 : decode cX3_marks 1 = .ok (.istore_n 1, 1) := by decide +kernel
theorem dX3_marks_2 : decode cX3_marks 2 = .ok (.iload_n 1, 1) := by decide +kernel
theorem dX3_marks_3 : decode cX3_marks 3 = .ok (.aload_n 0, 1) := by decide +kernel
theorem dX3_marks_4 : decode cX3_marks 4 = .ok (.getfield 64, 3) := by decide +kernel
theorem dX3_marks_7 : decode cX3_marks 7 = .ok (.if_icmp .ge 155, 3) := by decide +kernel
theorem dX3_marks_10 : decode cX3_marks 10 = .ok (.iconst 0, 1) := by decide +kernel
theorem dX3_marks_11 : decode cX3_marks 11 = .ok (.istore_n 2, 1) := by decide +kernel
theorem dX3_marks_12 : decode cX3_marks 12 = .ok (.iload_n 2, 1) := by decide +kernel
theorem dX3_marks_13 : decode cX3_marks 13 = .ok (.sipush 720, 3) := by decide +kernel
theorem dX3_marks_16 : decode cX3_marks 16 = .ok (.if_icmp .ge 22, 3) := by decide +kernel
theorem dX3_marks_19 : decode cX3_marks 19 = .ok (.aload_n 0, 1) := by decide +kernel
theorem dX3_marks_20 : decode cX3_marks 20 = .ok (.getfield 41, 3) := by decide +kernel
theorem dX3_marks_23 : decode cX3_marks 23 = .ok (.sipush 720, 3) := by decide +kernel
theorem dX3_marks_26 : decode cX3_marks 26 = .ok (.iload_n 1, 1) := by decide +kernel
theorem dX3_marks_27 : decode cX3_marks 27 = .ok (.imul, 1) := by decide +kernel
theorem dX3_marks_28 : decode cX3_marks 28 = .ok (.iload_n 2, 1) := by decide +kernel
theorem dX3_marks_29 : decode cX3_marks 29 = .ok (.iadd, 1) := by decide +kernel
theorem dX3_marks_30 : decode cX3_marks 30 = .ok (.iconst 0, 1) := by decide +kernel
theorem dX3_marks_31 : decode cX3_marks 31 = .ok (.bastore, 1) := by decide +kernel
theorem dX3_marks_32 : decode cX3_marks 32 = .ok (.iinc 2 1, 3) := by decide +kernel
theorem dX3_marks_35 : decode cX3_marks 35 = .ok (.goto (-23), 3) := by decide +kernel
theorem dX3_marks_38 : decode cX3_marks 38 = .ok (.iconst 0, 1) := by decide +kernel
theorem dX3_marks_39 : decode cX3_marks 39 = .ok (.istore_n 2, 1) := by decide +kernel
theorem dX3_marks_40 : decode cX3_marks 40 = .ok (.iload_n 2, 1) := by decide +kernel
theorem dX3_marks_41 : decode cX3_marks 41 = .ok (.sipush 720, 3) := by decide +kernel
theorem dX3_marks_44 : decode cX3_marks 44 = .ok (.if_icmp .ge 47, 3) := by decide +kernel
theorem dX3_marks_47 : decode cX3_marks 47 = .ok (.aload_n 0, 1) := by decide +kernel
theorem dX3_marks_48 : decode cX3_marks 48 = .ok (.iload_n 1, 1) := by decide +kernel
theorem dX3_marks_49 : decode cX3_marks 49 = .ok (.iload_n 2, 1) := by decide +kernel
theorem dX3_marks_50 : decode cX3_marks 50 = .ok (.invokevirtual 91, 3) := by decide +kernel
theorem dX3_marks_53 : decode cX3_marks 53 = .ok (.ifCond .eq 12, 3) := by decide +kernel
theorem dX3_marks_56 : decode cX3_marks 56 = .ok (.aload_n 0, 1) := by decide +kernel
theorem dX3_marks_57 : decode cX3_marks 57 = .ok (.iload_n 1, 1) := by decide +kernel
theorem dX3_marks_58 : decode cX3_marks 58 = .ok (.iload_n 2, 1) := by decide +kernel
theorem dX3_marks_59 : decode cX3_marks 59 = .ok (.invokevirtual 94, 3) := by decide +kernel
theorem dX3_marks_62 : decode cX3_marks 62 = .ok (.goto 4, 3) := by decide +kernel
theorem dX3_marks_65 : decode cX3_marks 65 = .ok (.iconst (-1), 1) := by decide +kernel
theorem dX3_marks_66 : decode cX3_marks 66 = .ok (.istore_n 3, 1) := by decide +kernel
theorem dX3_marks_67 : decode cX3_marks 67 = .ok (.iload_n 3, 1) := by decide +kernel
theorem dX3_marks_68 : decode cX3_marks 68 = .ok (.iconst (-1), 1) := by decide +kernel
theorem dX3_marks_69 : decode cX3_marks 69 = .ok (.if_icmp .eq 16, 3) := by decide +kernel
theorem dX3_marks_72 : decode cX3_marks 72 = .ok (.aload_n 0, 1) := by decide +kernel
theorem dX3_marks_73 : decode cX3_marks 73 = .ok (.getfield 41, 3) := by decide +kernel
theorem dX3_marks_76 : decode cX3_marks 76 = .ok (.sipush 720, 3) := by decide +kernel
theorem dX3_marks_79 : decode cX3_marks 79 = .ok (.iload_n 1, 1) := by decide +kernel
theorem dX3_marks_80 : decode cX3_marks 80 = .ok (.imul, 1) := by decide +kernel
theorem dX3_marks_81 : decode cX3_marks 81 = .ok (.iload_n 3, 1) := by decide +kernel
theorem dX3_marks_82 : decode cX3_marks 82 = .ok (.iadd, 1) := by decide +kernel
theorem dX3_marks_83 : decode cX3_marks 83 = .ok (.iconst 1, 1) := by decide +kernel
theorem dX3_marks_84 : decode cX3_marks 84 = .ok (.bastore, 1) := by decide +kernel
theorem dX3_marks_85 : decode cX3_marks 85 = .ok (.iinc 2 1, 3) := by decide +kernel
theorem dX3_marks_88 : decode cX3_marks 88 = .ok (.goto (-48), 3) := by decide +kernel
theorem dX3_marks_91 : decode cX3_marks 91 = .ok (.aload_n 0, 1) := by decide +kernel
theorem dX3_marks_92 : decode cX3_marks 92 = .ok (.getfield 47, 3) := by decide +kernel
theorem dX3_marks_95 : decode cX3_marks 95 = .ok (.iload_n 1, 1) := by decide +kernel
theorem dX3_marks_96 : decode cX3_marks 96 = .ok (.iconst 0, 1) := by decide +kernel
theorem dX3_marks_97 : decode cX3_marks 97 = .ok (.iastore, 1) := by decide +kernel
theorem dX3_marks_98 : decode cX3_marks 98 = .ok (.iconst 0, 1) := by decide +kernel
theorem dX3_marks_99 : decode cX3_marks 99 = .ok (.istore_n 2, 1) := by decide +kernel
theorem dX3_marks_100 : decode cX3_marks 100 = .ok (.iload_n 2, 1) := by decide +kernel
theorem dX3_marks_101 : decode cX3_marks 101 = .ok (.sipush 720, 3) := by decide +kernel
theorem dX3_marks_104 : decode cX3_marks 104 = .ok (.if_icmp .ge 52, 3) := by decide +kernel
theorem dX3_marks_107 : decode cX3_marks 107 = .ok (.aload_n 0, 1) := by decide +kernel
theorem dX3_marks_108 : decode cX3_marks 108 = .ok (.getfield 41, 3) := by decide +kernel
theorem dX3_marks_111 : decode cX3_marks 111 = .ok (.sipush 720, 3) := by decide +kernel
theorem dX3_marks_114 : decode cX3_marks 114 = .ok (.iload_n 1, 1) := by decide +kernel
theorem dX3_marks_115 : decode cX3_marks 115 = .ok (.imul, 1) := by decide +kernel
theorem dX3_marks_116 : decode cX3_marks 116 = .ok (.iload_n 2, 1) := by decide +kernel
theorem dX3_marks_117 : decode cX3_marks 117 = .ok (.iadd, 1) := by decide +kernel
theorem dX3_marks_118 : decode cX3_marks 118 = .ok (.baload, 1) := by decide +kernel
theorem dX3_marks_119 : decode cX3_marks 119 = .ok (.ifCond .eq 31, 3) := by decide +kernel
theorem dX3_marks_122 : decode cX3_marks 122 = .ok (.aload_n 0, 1) := by decide +kernel
theorem dX3_marks_123 : decode cX3_marks 123 = .ok (.getfield 44, 3) := by decide +kernel
theorem dX3_marks_126 : decode cX3_marks 126 = .ok (.sipush 720, 3) := by decide +kernel
theorem dX3_marks_129 : decode cX3_marks 129 = .ok (.iload_n 1, 1) := by decide +kernel
theorem dX3_marks_130 : decode cX3_marks 130 = .ok (.imul, 1) := by decide +kernel
theorem dX3_marks_131 : decode cX3_marks 131 = .ok (.aload_n 0, 1) := by decide +kernel
theorem dX3_marks_132 : decode cX3_marks 132 = .ok (.getfield 47, 3) := by decide +kernel
theorem dX3_marks_135 : decode cX3_marks 135 = .ok (.iload_n 1, 1) := by decide +kernel
theorem dX3_marks_136 : decode cX3_marks 136 = .ok (.iaload, 1) := by decide +kernel
theorem dX3_marks_137 : decode cX3_marks 137 = .ok (.iadd, 1) := by decide +kernel
theorem dX3_marks_138 : decode cX3_marks 138 = .ok (.iload_n 2, 1) := by decide +kernel
theorem dX3_marks_139 : decode cX3_marks 139 = .ok (.iastore, 1) := by decide +kernel
theorem dX3_marks_140 : decode cX3_marks 140 = .ok (.aload_n 0, 1) := by decide +kernel
theorem dX3_marks_141 : decode cX3_marks 141 = .ok (.getfield 47, 3) := by decide +kernel
theorem dX3_marks_144 : decode cX3_marks 144 = .ok (.iload_n 1, 1) := by decide +kernel
theorem dX3_marks_145 : decode cX3_marks 145 = .ok (.dup2, 1) := by decide +kernel
theorem dX3_marks_146 : decode cX3_marks 146 = .ok (.iaload, 1) := by decide +kernel
theorem dX3_marks_147 : decode cX3_marks 147 = .ok (.iconst 1, 1) := by decide +kernel
theorem dX3_marks_148 : decode cX3_marks 148 = .ok (.iadd, 1) := by decide +kernel
theorem dX3_marks_149 : decode cX3_marks 149 = .ok (.iastore, 1) := by decide +kernel
theorem dX3_marks_150 : decode cX3_marks 150 = .ok (.iinc 2 1, 3) := by decide +kernel
theorem dX3_marks_153 : decode cX3_marks 153 = .ok (.goto (-53), 3) := by decide +kernel
theorem dX3_marks_156 : decode cX3_marks 156 = .ok (.iinc 1 1, 3) := by decide +kernel
theorem dX3_marks_159 : decode cX3_marks 159 = .ok (.goto (-157), 3) := by decide +kernel
theorem dX3_marks_162 : decode cX3_marks 162 = .ok (.return_, 1) := by decide +kernel
theorem dX3_dueAt_0 : decode cX3_dueAt 0 = .ok (.iload_n 2, 1) := by decide +kernel
theorem dX3_dueAt_1 : decode cX3_dueAt 1 = .ok (.aload_n 0, 1) := by decide +kernel
theorem dX3_dueAt_2 : decode cX3_dueAt 2 = .ok (.getfield 47, 3) := by decide +kernel
theorem dX3_dueAt_5 : decode cX3_dueAt 5 = .ok (.iload_n 1, 1) := by decide +kernel
theorem dX3_dueAt_6 : decode cX3_dueAt 6 = .ok (.iaload, 1) := by decide +kernel
theorem dX3_dueAt_7 : decode cX3_dueAt 7 = .ok (.if_icmp .ge 18, 3) := by decide +kernel
theorem dX3_dueAt_10 : decode cX3_dueAt 10 = .ok (.aload_n 0, 1) := by decide +kernel
theorem dX3_dueAt_11 : decode cX3_dueAt 11 = .ok (.getfield 44, 3) := by decide +kernel
theorem dX3_dueAt_14 : decode cX3_dueAt 14 = .ok (.sipush 720, 3) := by decide +kernel
theorem dX3_dueAt_17 : decode cX3_dueAt 17 = .ok (.iload_n 1, 1) := by decide +kernel
theorem dX3_dueAt_18 : decode cX3_dueAt 18 = .ok (.imul, 1) := by decide +kernel
theorem dX3_dueAt_19 : decode cX3_dueAt 19 = .ok (.iload_n 2, 1) := by decide +kernel
theorem dX3_dueAt_20 : decode cX3_dueAt 20 = .ok (.iadd, 1) := by decide +kernel
theorem dX3_dueAt_21 : decode cX3_dueAt 21 = .ok (.iaload, 1) := by decide +kernel
theorem dX3_dueAt_22 : decode cX3_dueAt 22 = .ok (.goto 4, 3) := by decide +kernel
theorem dX3_dueAt_25 : decode cX3_dueAt 25 = .ok (.iconst (-1), 1) := by decide +kernel
theorem dX3_dueAt_26 : decode cX3_dueAt 26 = .ok (.ireturn, 1) := by decide +kernel
theorem dX3_dueDay_0 : decode cX3_dueDay 0 = .ok (.aload_n 0, 1) := by decide +kernel
theorem dX3_dueDay_1 : decode cX3_dueDay 1 = .ok (.aload_n 0, 1) := by decide +kernel
theorem dX3_dueDay_2 : decode cX3_dueDay 2 = .ok (.iload_n 1, 1) := by decide +kernel
theorem dX3_dueDay_3 : decode cX3_dueDay 3 = .ok (.invokevirtual 84, 3) := by decide +kernel
theorem dX3_dueDay_6 : decode cX3_dueDay 6 = .ok (.ifCond .eq 11, 3) := by decide +kernel
theorem dX3_dueDay_9 : decode cX3_dueDay 9 = .ok (.iload_n 2, 1) := by decide +kernel
theorem dX3_dueDay_10 : decode cX3_dueDay 10 = .ok (.ifCond .lt 7, 3) := by decide +kernel
theorem dX3_dueDay_13 : decode cX3_dueDay 13 = .ok (.iconst 0, 1) := by decide +kernel
theorem dX3_dueDay_14 : decode cX3_dueDay 14 = .ok (.goto 4, 3) := by decide +kernel
theorem dX3_dueDay_17 : decode cX3_dueDay 17 = .ok (.iconst 1, 1) := by decide +kernel
theorem dX3_dueDay_18 : decode cX3_dueDay 18 = .ok (.putfield 56, 3) := by decide +kernel
theorem dX3_dueDay_21 : decode cX3_dueDay 21 = .ok (.aload_n 0, 1) := by decide +kernel
theorem dX3_dueDay_22 : decode cX3_dueDay 22 = .ok (.invokevirtual 97, 3) := by decide +kernel
theorem dX3_dueDay_25 : decode cX3_dueDay 25 = .ok (.aload_n 0, 1) := by decide +kernel
theorem dX3_dueDay_26 : decode cX3_dueDay 26 = .ok (.getfield 56, 3) := by decide +kernel
theorem dX3_dueDay_29 : decode cX3_dueDay 29 = .ok (.ifCond .le 7, 3) := by decide +kernel
theorem dX3_dueDay_32 : decode cX3_dueDay 32 = .ok (.iconst 0, 1) := by decide +kernel
theorem dX3_dueDay_33 : decode cX3_dueDay 33 = .ok (.goto 9, 3) := by decide +kernel
theorem dX3_dueDay_36 : decode cX3_dueDay 36 = .ok (.aload_n 0, 1) := by decide +kernel
theorem dX3_dueDay_37 : decode cX3_dueDay 37 = .ok (.iload_n 1, 1) := by decide +kernel
theorem dX3_dueDay_38 : decode cX3_dueDay 38 = .ok (.iload_n 2, 1) := by decide +kernel
theorem dX3_dueDay_39 : decode cX3_dueDay 39 = .ok (.invokevirtual 100, 3) := by decide +kernel
theorem dX3_dueDay_42 : decode cX3_dueDay 42 = .ok (.ireturn, 1) := by decide +kernel
theorem dX3_countBefore_0 : decode cX3_countBefore 0 = .ok (.iconst 0, 1) := by decide +kernel
theorem dX3_countBefore_1 : decode cX3_countBefore 1 = .ok (.istore_n 3, 1) := by decide +kernel
theorem dX3_countBefore_2 : decode cX3_countBefore 2 = .ok (.iload_n 3, 1) := by decide +kernel
theorem dX3_countBefore_3 : decode cX3_countBefore 3 = .ok (.aload_n 0, 1) := by decide +kernel
theorem dX3_countBefore_4 : decode cX3_countBefore 4 = .ok (.getfield 47, 3) := by decide +kernel
theorem dX3_countBefore_7 : decode cX3_countBefore 7 = .ok (.iload_n 1, 1) := by decide +kernel
theorem dX3_countBefore_8 : decode cX3_countBefore 8 = .ok (.iaload, 1) := by decide +kernel
theorem dX3_countBefore_9 : decode cX3_countBefore 9 = .ok (.if_icmp .ge 25, 3) := by decide +kernel
theorem dX3_countBefore_12 : decode cX3_countBefore 12 = .ok (.aload_n 0, 1) := by decide +kernel
theorem dX3_countBefore_13 : decode cX3_countBefore 13 = .ok (.getfield 44, 3) := by decide +kernel
theorem dX3_countBefore_16 : decode cX3_countBefore 16 = .ok (.sipush 720, 3) := by decide +kernel
theorem dX3_countBefore_19 : decode cX3_countBefore 19 = .ok (.iload_n 1, 1) := by decide +kernel
theorem dX3_countBefore_20 : decode cX3_countBefore 20 = .ok (.imul, 1) := by decide +kernel
theorem dX3_countBefore_21 : decode cX3_countBefore 21 = .ok (.iload_n 3, 1) := by decide +kernel
theorem dX3_countBefore_22 : decode cX3_countBefore 22 = .ok (.iadd, 1) := by decide +kernel
theorem dX3_countBefore_23 : decode cX3_countBefore 23 = .ok (.iaload, 1) := by decide +kernel
theorem dX3_countBefore_24 : decode cX3_countBefore 24 = .ok (.iload_n 2, 1) := by decide +kernel
theorem dX3_countBefore_25 : decode cX3_countBefore 25 = .ok (.if_icmp .ge 9, 3) := by decide +kernel
theorem dX3_countBefore_28 : decode cX3_countBefore 28 = .ok (.iinc 3 1, 3) := by decide +kernel
theorem dX3_countBefore_31 : decode cX3_countBefore 31 = .ok (.goto (-29), 3) := by decide +kernel
theorem dX3_countBefore_34 : decode cX3_countBefore 34 = .ok (.iload_n 3, 1) := by decide +kernel
theorem dX3_countBefore_35 : decode cX3_countBefore 35 = .ok (.ireturn, 1) := by decide +kernel
theorem dX3_duties_0 : decode cX3_duties 0 = .ok (.aload_n 0, 1) := by decide +kernel
theorem dX3_duties_1 : decode cX3_duties 1 = .ok (.aload_n 0, 1) := by decide +kernel
theorem dX3_duties_2 : decode cX3_duties 2 = .ok (.iload_n 1, 1) := by decide +kernel
theorem dX3_duties_3 : decode cX3_duties 3 = .ok (.invokevirtual 84, 3) := by decide +kernel
theorem dX3_duties_6 : decode cX3_duties 6 = .ok (.ifCond .eq 7, 3) := by decide +kernel
theorem dX3_duties_9 : decode cX3_duties 9 = .ok (.iconst 0, 1) := by decide +kernel
theorem dX3_duties_10 : decode cX3_duties 10 = .ok (.goto 4, 3) := by decide +kernel
theorem dX3_duties_13 : decode cX3_duties 13 = .ok (.iconst 1, 1) := by decide +kernel
theorem dX3_duties_14 : decode cX3_duties 14 = .ok (.putfield 56, 3) := by decide +kernel
theorem dX3_duties_17 : decode cX3_duties 17 = .ok (.aload_n 0, 1) := by decide +kernel
theorem dX3_duties_18 : decode cX3_duties 18 = .ok (.invokevirtual 97, 3) := by decide +kernel
theorem dX3_duties_21 : decode cX3_duties 21 = .ok (.aload_n 0, 1) := by decide +kernel
theorem dX3_duties_22 : decode cX3_duties 22 = .ok (.getfield 56, 3) := by decide +kernel
theorem dX3_duties_25 : decode cX3_duties 25 = .ok (.ifCond .le 7, 3) := by decide +kernel
theorem dX3_duties_28 : decode cX3_duties 28 = .ok (.iconst 0, 1) := by decide +kernel
theorem dX3_duties_29 : decode cX3_duties 29 = .ok (.goto 11, 3) := by decide +kernel
theorem dX3_duties_32 : decode cX3_duties 32 = .ok (.aload_n 0, 1) := by decide +kernel
theorem dX3_duties_33 : decode cX3_duties 33 = .ok (.iload_n 1, 1) := by decide +kernel
theorem dX3_duties_34 : decode cX3_duties 34 = .ok (.sipush 720, 3) := by decide +kernel
theorem dX3_duties_37 : decode cX3_duties 37 = .ok (.invokevirtual 103, 3) := by decide +kernel
theorem dX3_duties_40 : decode cX3_duties 40 = .ok (.ireturn, 1) := by decide +kernel
theorem dX3_firstFrom_0 : decode cX3_firstFrom 0 = .ok (.aload_n 0, 1) := by decide +kernel
theorem dX3_firstFrom_1 : decode cX3_firstFrom 1 = .ok (.aload_n 0, 1) := by decide +kernel
theorem dX3_firstFrom_2 : decode cX3_firstFrom 2 = .ok (.iload_n 1, 1) := by decide +kernel
theorem dX3_firstFrom_3 : decode cX3_firstFrom 3 = .ok (.invokevirtual 84, 3) := by decide +kernel
theorem dX3_firstFrom_6 : decode cX3_firstFrom 6 = .ok (.ifCond .eq 14, 3) := by decide +kernel
theorem dX3_firstFrom_9 : decode cX3_firstFrom 9 = .ok (.iload_n 2, 1) := by decide +kernel
theorem dX3_firstFrom_10 : decode cX3_firstFrom 10 = .ok (.invokestatic 67, 3) := by decide +kernel
theorem dX3_firstFrom_13 : decode cX3_firstFrom 13 = .ok (.ifCond .eq 7, 3) := by decide +kernel
theorem dX3_firstFrom_16 : decode cX3_firstFrom 16 = .ok (.iconst 0, 1) := by decide +kernel
theorem dX3_firstFrom_17 : decode cX3_firstFrom 17 = .ok (.goto 4, 3) := by decide +kernel
theorem dX3_firstFrom_20 : decode cX3_firstFrom 20 = .ok (.iconst 1, 1) := by decide +kernel
theorem dX3_firstFrom_21 : decode cX3_firstFrom 21 = .ok (.putfield 56, 3) := by decide +kernel
theorem dX3_firstFrom_24 : decode cX3_firstFrom 24 = .ok (.aload_n 0, 1) := by decide +kernel
theorem dX3_firstFrom_25 : decode cX3_firstFrom 25 = .ok (.invokevirtual 97, 3) := by decide +kernel
theorem dX3_firstFrom_28 : decode cX3_firstFrom 28 = .ok (.aload_n 0, 1) := by decide +kernel
theorem dX3_firstFrom_29 : decode cX3_firstFrom 29 = .ok (.getfield 56, 3) := by decide +kernel
theorem dX3_firstFrom_32 : decode cX3_firstFrom 32 = .ok (.ifCond .le 7, 3) := by decide +kernel
theorem dX3_firstFrom_35 : decode cX3_firstFrom 35 = .ok (.iconst 0, 1) := by decide +kernel
theorem dX3_firstFrom_36 : decode cX3_firstFrom 36 = .ok (.goto 14, 3) := by decide +kernel
theorem dX3_firstFrom_39 : decode cX3_firstFrom 39 = .ok (.aload_n 0, 1) := by decide +kernel
theorem dX3_firstFrom_40 : decode cX3_firstFrom 40 = .ok (.iload_n 1, 1) := by decide +kernel
theorem dX3_firstFrom_41 : decode cX3_firstFrom 41 = .ok (.aload_n 0, 1) := by decide +kernel
theorem dX3_firstFrom_42 : decode cX3_firstFrom 42 = .ok (.iload_n 1, 1) := by decide +kernel
theorem dX3_firstFrom_43 : decode cX3_firstFrom 43 = .ok (.iload_n 2, 1) := by decide +kernel
theorem dX3_firstFrom_44 : decode cX3_firstFrom 44 = .ok (.invokevirtual 103, 3) := by decide +kernel
theorem dX3_firstFrom_47 : decode cX3_firstFrom 47 = .ok (.invokevirtual 100, 3) := by decide +kernel
theorem dX3_firstFrom_50 : decode cX3_firstFrom 50 = .ok (.ireturn, 1) := by decide +kernel
theorem dX3_nextDue_0 : decode cX3_nextDue 0 = .ok (.aload_n 0, 1) := by decide +kernel
theorem dX3_nextDue_1 : decode cX3_nextDue 1 = .ok (.iload_n 1, 1) := by decide +kernel
theorem dX3_nextDue_2 : decode cX3_nextDue 2 = .ok (.iload_n 2, 1) := by decide +kernel
theorem dX3_nextDue_3 : decode cX3_nextDue 3 = .ok (.invokevirtual 106, 3) := by decide +kernel
theorem dX3_nextDue_6 : decode cX3_nextDue 6 = .ok (.ireturn, 1) := by decide +kernel
theorem dX3_nextDueByWalking_0 : decode cX3_nextDueByWalking 0 = .ok (.aload_n 0, 1) := by decide +kernel
theorem dX3_nextDueByWalking_1 : decode cX3_nextDueByWalking 1 = .ok (.iload_n 1, 1) := by decide +kernel
theorem dX3_nextDueByWalking_2 : decode cX3_nextDueByWalking 2 = .ok (.iload_n 2, 1) := by decide +kernel
theorem dX3_nextDueByWalking_3 : decode cX3_nextDueByWalking 3 = .ok (.invokevirtual 106, 3) := by decide +kernel
theorem dX3_nextDueByWalking_6 : decode cX3_nextDueByWalking 6 = .ok (.ireturn, 1) := by decide +kernel
theorem dX3_upcoming_0 : decode cX3_upcoming 0 = .ok (.aload_n 0, 1) := by decide +kernel
theorem dX3_upcoming_1 : decode cX3_upcoming 1 = .ok (.iload_n 1, 1) := by decide +kernel
theorem dX3_upcoming_2 : decode cX3_upcoming 2 = .ok (.invokestatic 67, 3) := by decide +kernel
theorem dX3_upcoming_5 : decode cX3_upcoming 5 = .ok (.ifCond .eq 11, 3) := by decide +kernel
theorem dX3_upcoming_8 : decode cX3_upcoming 8 = .ok (.iload_n 2, 1) := by decide +kernel
theorem dX3_upcoming_9 : decode cX3_upcoming 9 = .ok (.ifCond .lt 7, 3) := by decide +kernel
theorem dX3_upcoming_12 : decode cX3_upcoming 12 = .ok (.iconst 0, 1) := by decide +kernel
theorem dX3_upcoming_13 : decode cX3_upcoming 13 = .ok (.goto 4, 3) := by decide +kernel
theorem dX3_upcoming_16 : decode cX3_upcoming 16 = .ok (.iconst 1, 1) := by decide +kernel
theorem dX3_upcoming_17 : decode cX3_upcoming 17 = .ok (.putfield 56, 3) := by decide +kernel
theorem dX3_upcoming_20 : decode cX3_upcoming 20 = .ok (.aload_n 0, 1) := by decide +kernel
theorem dX3_upcoming_21 : decode cX3_upcoming 21 = .ok (.invokevirtual 97, 3) := by decide +kernel
theorem dX3_upcoming_24 : decode cX3_upcoming 24 = .ok (.iload_n 2, 1) := by decide +kernel
theorem dX3_upcoming_25 : decode cX3_upcoming 25 = .ok (.istore_n 3, 1) := by decide +kernel
theorem dX3_upcoming_26 : decode cX3_upcoming 26 = .ok (.iload_n 1, 1) := by decide +kernel
theorem dX3_upcoming_27 : decode cX3_upcoming 27 = .ok (.istore 4, 2) := by decide +kernel
theorem dX3_upcoming_29 : decode cX3_upcoming 29 = .ok (.iload 4, 2) := by decide +kernel
theorem dX3_upcoming_31 : decode cX3_upcoming 31 = .ok (.sipush 720, 3) := by decide +kernel
theorem dX3_upcoming_34 : decode cX3_upcoming 34 = .ok (.if_icmp .ge 67, 3) := by decide +kernel
theorem dX3_upcoming_37 : decode cX3_upcoming 37 = .ok (.aload_n 0, 1) := by decide +kernel
theorem dX3_upcoming_38 : decode cX3_upcoming 38 = .ok (.getfield 56, 3) := by decide +kernel
theorem dX3_upcoming_41 : decode cX3_upcoming 41 = .ok (.ifCond .ne 60, 3) := by decide +kernel
theorem dX3_upcoming_44 : decode cX3_upcoming 44 = .ok (.iconst 0, 1) := by decide +kernel
theorem dX3_upcoming_45 : decode cX3_upcoming 45 = .ok (.istore 5, 2) := by decide +kernel
theorem dX3_upcoming_47 : decode cX3_upcoming 47 = .ok (.iload 5, 2) := by decide +kernel
theorem dX3_upcoming_49 : decode cX3_upcoming 49 = .ok (.aload_n 0, 1) := by decide +kernel
theorem dX3_upcoming_50 : decode cX3_upcoming 50 = .ok (.getfield 64, 3) := by decide +kernel
theorem dX3_upcoming_53 : decode cX3_upcoming 53 = .ok (.if_icmp .ge 42, 3) := by decide +kernel
theorem dX3_upcoming_56 : decode cX3_upcoming 56 = .ok (.aload_n 0, 1) := by decide +kernel
theorem dX3_upcoming_57 : decode cX3_upcoming 57 = .ok (.getfield 41, 3) := by decide +kernel
theorem dX3_upcoming_60 : decode cX3_upcoming 60 = .ok (.sipush 720, 3) := by decide +kernel
theorem dX3_upcoming_63 : decode cX3_upcoming 63 = .ok (.iload 5, 2) := by decide +kernel
theorem dX3_upcoming_65 : decode cX3_upcoming 65 = .ok (.imul, 1) := by decide +kernel
theorem dX3_upcoming_66 : decode cX3_upcoming 66 = .ok (.iload 4, 2) := by decide +kernel
theorem dX3_upcoming_68 : decode cX3_upcoming 68 = .ok (.iadd, 1) := by decide +kernel
theorem dX3_upcoming_69 : decode cX3_upcoming 69 = .ok (.baload, 1) := by decide +kernel
theorem dX3_upcoming_70 : decode cX3_upcoming 70 = .ok (.ifCond .eq 19, 3) := by decide +kernel
theorem dX3_upcoming_73 : decode cX3_upcoming 73 = .ok (.iload_n 3, 1) := by decide +kernel
theorem dX3_upcoming_74 : decode cX3_upcoming 74 = .ok (.ifCond .ne 12, 3) := by decide +kernel
theorem dX3_upcoming_77 : decode cX3_upcoming 77 = .ok (.bipush 10, 2) := by decide +kernel
theorem dX3_upcoming_79 : decode cX3_upcoming 79 = .ok (.iload 4, 2) := by decide +kernel
theorem dX3_upcoming_81 : decode cX3_upcoming 81 = .ok (.imul, 1) := by decide +kernel
theorem dX3_upcoming_82 : decode cX3_upcoming 82 = .ok (.iload 5, 2) := by decide +kernel
theorem dX3_upcoming_84 : decode cX3_upcoming 84 = .ok (.iadd, 1) := by decide +kernel
theorem dX3_upcoming_85 : decode cX3_upcoming 85 = .ok (.ireturn, 1) := by decide +kernel
theorem dX3_upcoming_86 : decode cX3_upcoming 86 = .ok (.iinc 3 (-1), 3) := by decide +kernel
theorem dX3_upcoming_89 : decode cX3_upcoming 89 = .ok (.iinc 5 1, 3) := by decide +kernel
theorem dX3_upcoming_92 : decode cX3_upcoming 92 = .ok (.goto (-45), 3) := by decide +kernel
theorem dX3_upcoming_95 : decode cX3_upcoming 95 = .ok (.iinc 4 1, 3) := by decide +kernel
theorem dX3_upcoming_98 : decode cX3_upcoming 98 = .ok (.goto (-69), 3) := by decide +kernel
theorem dX3_upcoming_101 : decode cX3_upcoming 101 = .ok (.aload_n 0, 1) := by decide +kernel
theorem dX3_upcoming_102 : decode cX3_upcoming 102 = .ok (.getfield 56, 3) := by decide +kernel
theorem dX3_upcoming_105 : decode cX3_upcoming 105 = .ok (.ifCond .le 7, 3) := by decide +kernel
theorem dX3_upcoming_108 : decode cX3_upcoming 108 = .ok (.iconst 0, 1) := by decide +kernel
theorem dX3_upcoming_109 : decode cX3_upcoming 109 = .ok (.goto 4, 3) := by decide +kernel
theorem dX3_upcoming_112 : decode cX3_upcoming 112 = .ok (.iconst (-1), 1) := by decide +kernel
theorem dX3_upcoming_113 : decode cX3_upcoming 113 = .ok (.ireturn, 1) := by decide +kernel
theorem dX3_blocks_0 : decode cX3_blocks 0 = .ok (.aload_n 0, 1) := by decide +kernel
theorem dX3_blocks_1 : decode cX3_blocks 1 = .ok (.iload_n 2, 1) := by decide +kernel
theorem dX3_blocks_2 : decode cX3_blocks 2 = .ok (.aload_n 1, 1) := by decide +kernel
theorem dX3_blocks_3 : decode cX3_blocks 3 = .ok (.iload_n 2, 1) := by decide +kernel
theorem dX3_blocks_4 : decode cX3_blocks 4 = .ok (.iaload, 1) := by decide +kernel
theorem dX3_blocks_5 : decode cX3_blocks 5 = .ok (.invokevirtual 100, 3) := by decide +kernel
theorem dX3_blocks_8 : decode cX3_blocks 8 = .ok (.istore_n 3, 1) := by decide +kernel
theorem dX3_blocks_9 : decode cX3_blocks 9 = .ok (.iconst (-1), 1) := by decide +kernel
theorem dX3_blocks_10 : decode cX3_blocks 10 = .ok (.istore 4, 2) := by decide +kernel
theorem dX3_blocks_12 : decode cX3_blocks 12 = .ok (.aload_n 0, 1) := by decide +kernel
theorem dX3_blocks_13 : decode cX3_blocks 13 = .ok (.getfield 64, 3) := by decide +kernel
theorem dX3_blocks_16 : decode cX3_blocks 16 = .ok (.iconst 1, 1) := by decide +kernel
theorem dX3_blocks_17 : decode cX3_blocks 17 = .ok (.isub, 1) := by decide +kernel
theorem dX3_blocks_18 : decode cX3_blocks 18 = .ok (.istore 5, 2) := by decide +kernel
theorem dX3_blocks_20 : decode cX3_blocks 20 = .ok (.iload 5, 2) := by decide +kernel
theorem dX3_blocks_22 : decode cX3_blocks 22 = .ok (.ifCond .lt 66, 3) := by decide +kernel
theorem dX3_blocks_25 : decode cX3_blocks 25 = .ok (.iload_n 3, 1) := by decide +kernel
theorem dX3_blocks_26 : decode cX3_blocks 26 = .ok (.iconst (-1), 1) := by decide +kernel
theorem dX3_blocks_27 : decode cX3_blocks 27 = .ok (.if_icmp .eq 61, 3) := by decide +kernel
theorem dX3_blocks_30 : decode cX3_blocks 30 = .ok (.aload_n 0, 1) := by decide +kernel
theorem dX3_blocks_31 : decode cX3_blocks 31 = .ok (.getfield 38, 3) := by decide +kernel
theorem dX3_blocks_34 : decode cX3_blocks 34 = .ok (.bipush 8, 2) := by decide +kernel
theorem dX3_blocks_36 : decode cX3_blocks 36 = .ok (.iload_n 2, 1) := by decide +kernel
theorem dX3_blocks_37 : decode cX3_blocks 37 = .ok (.imul, 1) := by decide +kernel
theorem dX3_blocks_38 : decode cX3_blocks 38 = .ok (.iload 5, 2) := by decide +kernel
theorem dX3_blocks_40 : decode cX3_blocks 40 = .ok (.iadd, 1) := by decide +kernel
theorem dX3_blocks_41 : decode cX3_blocks 41 = .ok (.baload, 1) := by decide +kernel
theorem dX3_blocks_42 : decode cX3_blocks 42 = .ok (.ifCond .eq 16, 3) := by decide +kernel
theorem dX3_blocks_45 : decode cX3_blocks 45 = .ok (.aload_n 0, 1) := by decide +kernel
theorem dX3_blocks_46 : decode cX3_blocks 46 = .ok (.iload 5, 2) := by decide +kernel
theorem dX3_blocks_48 : decode cX3_blocks 48 = .ok (.aload_n 1, 1) := by decide +kernel
theorem dX3_blocks_49 : decode cX3_blocks 49 = .ok (.iload 5, 2) := by decide +kernel
theorem dX3_blocks_51 : decode cX3_blocks 51 = .ok (.iaload, 1) := by decide +kernel
theorem dX3_blocks_52 : decode cX3_blocks 52 = .ok (.invokevirtual 100, 3) := by decide +kernel
theorem dX3_blocks_55 : decode cX3_blocks 55 = .ok (.goto 4, 3) := by decide +kernel
theorem dX3_blocks_58 : decode cX3_blocks 58 = .ok (.iconst (-1), 1) := by decide +kernel
theorem dX3_blocks_59 : decode cX3_blocks 59 = .ok (.istore 6, 2) := by decide +kernel
theorem dX3_blocks_61 : decode cX3_blocks 61 = .ok (.iload 6, 2) := by decide +kernel
theorem dX3_blocks_63 : decode cX3_blocks 63 = .ok (.iconst (-1), 1) := by decide +kernel
theorem dX3_blocks_64 : decode cX3_blocks 64 = .ok (.if_icmp .eq 14, 3) := by decide +kernel
theorem dX3_blocks_67 : decode cX3_blocks 67 = .ok (.iload 6, 2) := by decide +kernel
theorem dX3_blocks_69 : decode cX3_blocks 69 = .ok (.iload_n 3, 1) := by decide +kernel
theorem dX3_blocks_70 : decode cX3_blocks 70 = .ok (.if_icmp .gt 8, 3) := by decide +kernel
theorem dX3_blocks_73 : decode cX3_blocks 73 = .ok (.iload 5, 2) := by decide +kernel
theorem dX3_blocks_75 : decode cX3_blocks 75 = .ok (.goto 5, 3) := by decide +kernel
theorem dX3_blocks_78 : decode cX3_blocks 78 = .ok (.iload 4, 2) := by decide +kernel
theorem dX3_blocks_80 : decode cX3_blocks 80 = .ok (.istore 4, 2) := by decide +kernel
theorem dX3_blocks_82 : decode cX3_blocks 82 = .ok (.iinc 5 (-1), 3) := by decide +kernel
theorem dX3_blocks_85 : decode cX3_blocks 85 = .ok (.goto (-65), 3) := by decide +kernel
theorem dX3_blocks_88 : decode cX3_blocks 88 = .ok (.iload 4, 2) := by decide +kernel
theorem dX3_blocks_90 : decode cX3_blocks 90 = .ok (.ireturn, 1) := by decide +kernel
theorem dX3_finish_0 : decode cX3_finish 0 = .ok (.aload_n 0, 1) := by decide +kernel
theorem dX3_finish_1 : decode cX3_finish 1 = .ok (.aload_n 0, 1) := by decide +kernel
theorem dX3_finish_2 : decode cX3_finish 2 = .ok (.iload_n 1, 1) := by decide +kernel
theorem dX3_finish_3 : decode cX3_finish 3 = .ok (.invokevirtual 84, 3) := by decide +kernel
theorem dX3_finish_6 : decode cX3_finish 6 = .ok (.ifCond .eq 7, 3) := by decide +kernel
theorem dX3_finish_9 : decode cX3_finish 9 = .ok (.iconst 0, 1) := by decide +kernel
theorem dX3_finish_10 : decode cX3_finish 10 = .ok (.goto 4, 3) := by decide +kernel
theorem dX3_finish_13 : decode cX3_finish 13 = .ok (.iconst 1, 1) := by decide +kernel
theorem dX3_finish_14 : decode cX3_finish 14 = .ok (.putfield 56, 3) := by decide +kernel
theorem dX3_finish_17 : decode cX3_finish 17 = .ok (.aload_n 0, 1) := by decide +kernel
theorem dX3_finish_18 : decode cX3_finish 18 = .ok (.getfield 56, 3) := by decide +kernel
theorem dX3_finish_21 : decode cX3_finish 21 = .ok (.ifCond .le 5, 3) := by decide +kernel
theorem dX3_finish_24 : decode cX3_finish 24 = .ok (.iconst 0, 1) := by decide +kernel
theorem dX3_finish_25 : decode cX3_finish 25 = .ok (.ireturn, 1) := by decide +kernel
theorem dX3_finish_26 : decode cX3_finish 26 = .ok (.aload_n 0, 1) := by decide +kernel
theorem dX3_finish_27 : decode cX3_finish 27 = .ok (.invokevirtual 97, 3) := by decide +kernel
theorem dX3_finish_30 : decode cX3_finish 30 = .ok (.aload_n 0, 1) := by decide +kernel
theorem dX3_finish_31 : decode cX3_finish 31 = .ok (.iload_n 1, 1) := by decide +kernel
theorem dX3_finish_32 : decode cX3_finish 32 = .ok (.aload_n 0, 1) := by decide +kernel
theorem dX3_finish_33 : decode cX3_finish 33 = .ok (.getfield 32, 3) := by decide +kernel
theorem dX3_finish_36 : decode cX3_finish 36 = .ok (.iload_n 1, 1) := by decide +kernel
theorem dX3_finish_37 : decode cX3_finish 37 = .ok (.iaload, 1) := by decide +kernel
theorem dX3_finish_38 : decode cX3_finish 38 = .ok (.invokevirtual 100, 3) := by decide +kernel
theorem dX3_finish_41 : decode cX3_finish 41 = .ok (.istore_n 2, 1) := by decide +kernel
theorem dX3_finish_42 : decode cX3_finish 42 = .ok (.aload_n 0, 1) := by decide +kernel
theorem dX3_finish_43 : decode cX3_finish 43 = .ok (.iload_n 2, 1) := by decide +kernel
theorem dX3_finish_44 : decode cX3_finish 44 = .ok (.iconst (-1), 1) := by decide +kernel
theorem dX3_finish_45 : decode cX3_finish 45 = .ok (.if_icmp .ne 7, 3) := by decide +kernel
theorem dX3_finish_48 : decode cX3_finish 48 = .ok (.iconst 2, 1) := by decide +kernel
theorem dX3_finish_49 : decode cX3_finish 49 = .ok (.goto 21, 3) := by decide +kernel
theorem dX3_finish_52 : decode cX3_finish 52 = .ok (.aload_n 0, 1) := by decide +kernel
theorem dX3_finish_53 : decode cX3_finish 53 = .ok (.aload_n 0, 1) := by decide +kernel
theorem dX3_finish_54 : decode cX3_finish 54 = .ok (.getfield 32, 3) := by decide +kernel
theorem dX3_finish_57 : decode cX3_finish 57 = .ok (.iload_n 1, 1) := by decide +kernel
theorem dX3_finish_58 : decode cX3_finish 58 = .ok (.invokevirtual 109, 3) := by decide +kernel
theorem dX3_finish_61 : decode cX3_finish 61 = .ok (.iconst (-1), 1) := by decide +kernel
theorem dX3_finish_62 : decode cX3_finish 62 = .ok (.if_icmp .eq 7, 3) := by decide +kernel
theorem dX3_finish_65 : decode cX3_finish 65 = .ok (.iconst 3, 1) := by decide +kernel
theorem dX3_finish_66 : decode cX3_finish 66 = .ok (.goto 4, 3) := by decide +kernel
theorem dX3_finish_69 : decode cX3_finish 69 = .ok (.iconst 0, 1) := by decide +kernel
theorem dX3_finish_70 : decode cX3_finish 70 = .ok (.putfield 56, 3) := by decide +kernel
theorem dX3_finish_73 : decode cX3_finish 73 = .ok (.aload_n 0, 1) := by decide +kernel
theorem dX3_finish_74 : decode cX3_finish 74 = .ok (.getfield 56, 3) := by decide +kernel
theorem dX3_finish_77 : decode cX3_finish 77 = .ok (.ifCond .le 5, 3) := by decide +kernel
theorem dX3_finish_80 : decode cX3_finish 80 = .ok (.iconst 0, 1) := by decide +kernel
theorem dX3_finish_81 : decode cX3_finish 81 = .ok (.ireturn, 1) := by decide +kernel
theorem dX3_finish_82 : decode cX3_finish 82 = .ok (.aload_n 0, 1) := by decide +kernel
theorem dX3_finish_83 : decode cX3_finish 83 = .ok (.getfield 32, 3) := by decide +kernel
theorem dX3_finish_86 : decode cX3_finish 86 = .ok (.iload_n 1, 1) := by decide +kernel
theorem dX3_finish_87 : decode cX3_finish 87 = .ok (.dup2, 1) := by decide +kernel
theorem dX3_finish_88 : decode cX3_finish 88 = .ok (.iaload, 1) := by decide +kernel
theorem dX3_finish_89 : decode cX3_finish 89 = .ok (.iconst 1, 1) := by decide +kernel
theorem dX3_finish_90 : decode cX3_finish 90 = .ok (.iadd, 1) := by decide +kernel
theorem dX3_finish_91 : decode cX3_finish 91 = .ok (.iastore, 1) := by decide +kernel
theorem dX3_finish_92 : decode cX3_finish 92 = .ok (.aload_n 0, 1) := by decide +kernel
theorem dX3_finish_93 : decode cX3_finish 93 = .ok (.getfield 35, 3) := by decide +kernel
theorem dX3_finish_96 : decode cX3_finish 96 = .ok (.iload_n 1, 1) := by decide +kernel
theorem dX3_finish_97 : decode cX3_finish 97 = .ok (.aload_n 0, 1) := by decide +kernel
theorem dX3_finish_98 : decode cX3_finish 98 = .ok (.getfield 81, 3) := by decide +kernel
theorem dX3_finish_101 : decode cX3_finish 101 = .ok (.iastore, 1) := by decide +kernel
theorem dX3_finish_102 : decode cX3_finish 102 = .ok (.aload_n 0, 1) := by decide +kernel
theorem dX3_finish_103 : decode cX3_finish 103 = .ok (.getfield 81, 3) := by decide +kernel
theorem dX3_finish_106 : decode cX3_finish 106 = .ok (.iload_n 2, 1) := by decide +kernel
theorem dX3_finish_107 : decode cX3_finish 107 = .ok (.isub, 1) := by decide +kernel
theorem dX3_finish_108 : decode cX3_finish 108 = .ok (.ireturn, 1) := by decide +kernel
theorem dX3_open_0 : decode cX3_open 0 = .ok (.aload_n 0, 1) := by decide +kernel
theorem dX3_open_1 : decode cX3_open 1 = .ok (.aload_n 0, 1) := by decide +kernel
theorem dX3_open_2 : decode cX3_open 2 = .ok (.iload_n 1, 1) := by decide +kernel
theorem dX3_open_3 : decode cX3_open 3 = .ok (.invokevirtual 84, 3) := by decide +kernel
theorem dX3_open_6 : decode cX3_open 6 = .ok (.ifCond .eq 7, 3) := by decide +kernel
theorem dX3_open_9 : decode cX3_open 9 = .ok (.iconst 0, 1) := by decide +kernel
theorem dX3_open_10 : decode cX3_open 10 = .ok (.goto 4, 3) := by decide +kernel
theorem dX3_open_13 : decode cX3_open 13 = .ok (.iconst 1, 1) := by decide +kernel
theorem dX3_open_14 : decode cX3_open 14 = .ok (.putfield 56, 3) := by decide +kernel
theorem dX3_open_17 : decode cX3_open 17 = .ok (.aload_n 0, 1) := by decide +kernel
theorem dX3_open_18 : decode cX3_open 18 = .ok (.invokevirtual 97, 3) := by decide +kernel
theorem dX3_open_21 : decode cX3_open 21 = .ok (.aload_n 0, 1) := by decide +kernel
theorem dX3_open_22 : decode cX3_open 22 = .ok (.getfield 56, 3) := by decide +kernel
theorem dX3_open_25 : decode cX3_open 25 = .ok (.ifCond .le 7, 3) := by decide +kernel
theorem dX3_open_28 : decode cX3_open 28 = .ok (.iconst 0, 1) := by decide +kernel
theorem dX3_open_29 : decode cX3_open 29 = .ok (.goto 14, 3) := by decide +kernel
theorem dX3_open_32 : decode cX3_open 32 = .ok (.aload_n 0, 1) := by decide +kernel
theorem dX3_open_33 : decode cX3_open 33 = .ok (.iload_n 1, 1) := by decide +kernel
theorem dX3_open_34 : decode cX3_open 34 = .ok (.aload_n 0, 1) := by decide +kernel
theorem dX3_open_35 : decode cX3_open 35 = .ok (.getfield 32, 3) := by decide +kernel
theorem dX3_open_38 : decode cX3_open 38 = .ok (.iload_n 1, 1) := by decide +kernel
theorem dX3_open_39 : decode cX3_open 39 = .ok (.iaload, 1) := by decide +kernel
theorem dX3_open_40 : decode cX3_open 40 = .ok (.invokevirtual 100, 3) := by decide +kernel
theorem dX3_open_43 : decode cX3_open 43 = .ok (.ireturn, 1) := by decide +kernel
theorem dX3_finished_0 : decode cX3_finished 0 = .ok (.aload_n 0, 1) := by decide +kernel
theorem dX3_finished_1 : decode cX3_finished 1 = .ok (.iconst 0, 1) := by decide +kernel
theorem dX3_finished_2 : decode cX3_finished 2 = .ok (.putfield 56, 3) := by decide +kernel
theorem dX3_finished_5 : decode cX3_finished 5 = .ok (.aload_n 0, 1) := by decide +kernel
theorem dX3_finished_6 : decode cX3_finished 6 = .ok (.iload_n 1, 1) := by decide +kernel
theorem dX3_finished_7 : decode cX3_finished 7 = .ok (.invokevirtual 84, 3) := by decide +kernel
theorem dX3_finished_10 : decode cX3_finished 10 = .ok (.ifCond .eq 12, 3) := by decide +kernel
theorem dX3_finished_13 : decode cX3_finished 13 = .ok (.aload_n 0, 1) := by decide +kernel
theorem dX3_finished_14 : decode cX3_finished 14 = .ok (.getfield 32, 3) := by decide +kernel
theorem dX3_finished_17 : decode cX3_finished 17 = .ok (.iload_n 1, 1) := by decide +kernel
theorem dX3_finished_18 : decode cX3_finished 18 = .ok (.iaload, 1) := by decide +kernel
theorem dX3_finished_19 : decode cX3_finished 19 = .ok (.goto 8, 3) := by decide +kernel
theorem dX3_finished_22 : decode cX3_finished 22 = .ok (.aload_n 0, 1) := by decide +kernel
theorem dX3_finished_23 : decode cX3_finished 23 = .ok (.iconst 1, 1) := by decide +kernel
theorem dX3_finished_24 : decode cX3_finished 24 = .ok (.invokevirtual 113, 3) := by decide +kernel
theorem dX3_finished_27 : decode cX3_finished 27 = .ok (.ireturn, 1) := by decide +kernel
theorem dX3_blockedBy_0 : decode cX3_blockedBy 0 = .ok (.aload_n 0, 1) := by decide +kernel
theorem dX3_blockedBy_1 : decode cX3_blockedBy 1 = .ok (.aload_n 0, 1) := by decide +kernel
theorem dX3_blockedBy_2 : decode cX3_blockedBy 2 = .ok (.iload_n 1, 1) := by decide +kernel
theorem dX3_blockedBy_3 : decode cX3_blockedBy 3 = .ok (.invokevirtual 84, 3) := by decide +kernel
theorem dX3_blockedBy_6 : decode cX3_blockedBy 6 = .ok (.ifCond .eq 7, 3) := by decide +kernel
theorem dX3_blockedBy_9 : decode cX3_blockedBy 9 = .ok (.iconst 0, 1) := by decide +kernel
theorem dX3_blockedBy_10 : decode cX3_blockedBy 10 = .ok (.goto 4, 3) := by decide +kernel
theorem dX3_blockedBy_13 : decode cX3_blockedBy 13 = .ok (.iconst 1, 1) := by decide +kernel
theorem dX3_blockedBy_14 : decode cX3_blockedBy 14 = .ok (.putfield 56, 3) := by decide +kernel
theorem dX3_blockedBy_17 : decode cX3_blockedBy 17 = .ok (.aload_n 0, 1) := by decide +kernel
theorem dX3_blockedBy_18 : decode cX3_blockedBy 18 = .ok (.invokevirtual 97, 3) := by decide +kernel
theorem dX3_blockedBy_21 : decode cX3_blockedBy 21 = .ok (.aload_n 0, 1) := by decide +kernel
theorem dX3_blockedBy_22 : decode cX3_blockedBy 22 = .ok (.getfield 56, 3) := by decide +kernel
theorem dX3_blockedBy_25 : decode cX3_blockedBy 25 = .ok (.ifCond .le 7, 3) := by decide +kernel
theorem dX3_blockedBy_28 : decode cX3_blockedBy 28 = .ok (.iconst 0, 1) := by decide +kernel
theorem dX3_blockedBy_29 : decode cX3_blockedBy 29 = .ok (.goto 12, 3) := by decide +kernel
theorem dX3_blockedBy_32 : decode cX3_blockedBy 32 = .ok (.aload_n 0, 1) := by decide +kernel
theorem dX3_blockedBy_33 : decode cX3_blockedBy 33 = .ok (.aload_n 0, 1) := by decide +kernel
theorem dX3_blockedBy_34 : decode cX3_blockedBy 34 = .ok (.getfield 32, 3) := by decide +kernel
theorem dX3_blockedBy_37 : decode cX3_blockedBy 37 = .ok (.iload_n 1, 1) := by decide +kernel
theorem dX3_blockedBy_38 : decode cX3_blockedBy 38 = .ok (.invokevirtual 109, 3) := by decide +kernel
theorem dX3_blockedBy_41 : decode cX3_blockedBy 41 = .ok (.ireturn, 1) := by decide +kernel
theorem dX3_overdue_0 : decode cX3_overdue 0 = .ok (.aload_n 0, 1) := by decide +kernel
theorem dX3_overdue_1 : decode cX3_overdue 1 = .ok (.iconst 0, 1) := by decide +kernel
theorem dX3_overdue_2 : decode cX3_overdue 2 = .ok (.putfield 56, 3) := by decide +kernel
theorem dX3_overdue_5 : decode cX3_overdue 5 = .ok (.aload_n 0, 1) := by decide +kernel
theorem dX3_overdue_6 : decode cX3_overdue 6 = .ok (.invokevirtual 97, 3) := by decide +kernel
theorem dX3_overdue_9 : decode cX3_overdue 9 = .ok (.iconst 0, 1) := by decide +kernel
theorem dX3_overdue_10 : decode cX3_overdue 10 = .ok (.istore_n 1, 1) := by decide +kernel
theorem dX3_overdue_11 : decode cX3_overdue 11 = .ok (.iconst 0, 1) := by decide +kernel
theorem dX3_overdue_12 : decode cX3_overdue 12 = .ok (.istore_n 2, 1) := by decide +kernel
theorem dX3_overdue_13 : decode cX3_overdue 13 = .ok (.iload_n 2, 1) := by decide +kernel
theorem dX3_overdue_14 : decode cX3_overdue 14 = .ok (.aload_n 0, 1) := by decide +kernel
theorem dX3_overdue_15 : decode cX3_overdue 15 = .ok (.getfield 64, 3) := by decide +kernel
theorem dX3_overdue_18 : decode cX3_overdue 18 = .ok (.if_icmp .ge 38, 3) := by decide +kernel
theorem dX3_overdue_21 : decode cX3_overdue 21 = .ok (.aload_n 0, 1) := by decide +kernel
theorem dX3_overdue_22 : decode cX3_overdue 22 = .ok (.iload_n 2, 1) := by decide +kernel
theorem dX3_overdue_23 : decode cX3_overdue 23 = .ok (.aload_n 0, 1) := by decide +kernel
theorem dX3_overdue_24 : decode cX3_overdue 24 = .ok (.getfield 81, 3) := by decide +kernel
theorem dX3_overdue_27 : decode cX3_overdue 27 = .ok (.invokevirtual 103, 3) := by decide +kernel
theorem dX3_overdue_30 : decode cX3_overdue 30 = .ok (.aload_n 0, 1) := by decide +kernel
theorem dX3_overdue_31 : decode cX3_overdue 31 = .ok (.getfield 32, 3) := by decide +kernel
theorem dX3_overdue_34 : decode cX3_overdue 34 = .ok (.iload_n 2, 1) := by decide +kernel
theorem dX3_overdue_35 : decode cX3_overdue 35 = .ok (.iaload, 1) := by decide +kernel
theorem dX3_overdue_36 : decode cX3_overdue 36 = .ok (.isub, 1) := by decide +kernel
theorem dX3_overdue_37 : decode cX3_overdue 37 = .ok (.istore_n 3, 1) := by decide +kernel
theorem dX3_overdue_38 : decode cX3_overdue 38 = .ok (.iload_n 1, 1) := by decide +kernel
theorem dX3_overdue_39 : decode cX3_overdue 39 = .ok (.iload_n 3, 1) := by decide +kernel
theorem dX3_overdue_40 : decode cX3_overdue 40 = .ok (.ifCond .le 7, 3) := by decide +kernel
theorem dX3_overdue_43 : decode cX3_overdue 43 = .ok (.iload_n 3, 1) := by decide +kernel
theorem dX3_overdue_44 : decode cX3_overdue 44 = .ok (.goto 4, 3) := by decide +kernel
theorem dX3_overdue_47 : decode cX3_overdue 47 = .ok (.iconst 0, 1) := by decide +kernel
theorem dX3_overdue_48 : decode cX3_overdue 48 = .ok (.iadd, 1) := by decide +kernel
theorem dX3_overdue_49 : decode cX3_overdue 49 = .ok (.istore_n 1, 1) := by decide +kernel
theorem dX3_overdue_50 : decode cX3_overdue 50 = .ok (.iinc 2 1, 3) := by decide +kernel
theorem dX3_overdue_53 : decode cX3_overdue 53 = .ok (.goto (-40), 3) := by decide +kernel
theorem dX3_overdue_56 : decode cX3_overdue 56 = .ok (.iload_n 1, 1) := by decide +kernel
theorem dX3_overdue_57 : decode cX3_overdue 57 = .ok (.ireturn, 1) := by decide +kernel
theorem dX3_comesNext_0 : decode cX3_comesNext 0 = .ok (.iconst (-1), 1) := by decide +kernel
theorem dX3_comesNext_1 : decode cX3_comesNext 1 = .ok (.istore_n 2, 1) := by decide +kernel
theorem dX3_comesNext_2 : decode cX3_comesNext 2 = .ok (.iconst (-1), 1) := by decide +kernel
theorem dX3_comesNext_3 : decode cX3_comesNext 3 = .ok (.istore_n 3, 1) := by decide +kernel
theorem dX3_comesNext_4 : decode cX3_comesNext 4 = .ok (.iconst 0, 1) := by decide +kernel
theorem dX3_comesNext_5 : decode cX3_comesNext 5 = .ok (.istore 4, 2) := by decide +kernel
theorem dX3_comesNext_7 : decode cX3_comesNext 7 = .ok (.iload 4, 2) := by decide +kernel
theorem dX3_comesNext_9 : decode cX3_comesNext 9 = .ok (.aload_n 0, 1) := by decide +kernel
theorem dX3_comesNext_10 : decode cX3_comesNext 10 = .ok (.getfield 64, 3) := by decide +kernel
theorem dX3_comesNext_13 : decode cX3_comesNext 13 = .ok (.if_icmp .ge 92, 3) := by decide +kernel
theorem dX3_comesNext_16 : decode cX3_comesNext 16 = .ok (.aload_n 0, 1) := by decide +kernel
theorem dX3_comesNext_17 : decode cX3_comesNext 17 = .ok (.iload 4, 2) := by decide +kernel
theorem dX3_comesNext_19 : decode cX3_comesNext 19 = .ok (.aload_n 0, 1) := by decide +kernel
theorem dX3_comesNext_20 : decode cX3_comesNext 20 = .ok (.getfield 50, 3) := by decide +kernel
theorem dX3_comesNext_23 : decode cX3_comesNext 23 = .ok (.iload 4, 2) := by decide +kernel
theorem dX3_comesNext_25 : decode cX3_comesNext 25 = .ok (.iaload, 1) := by decide +kernel
theorem dX3_comesNext_26 : decode cX3_comesNext 26 = .ok (.invokevirtual 100, 3) := by decide +kernel
theorem dX3_comesNext_29 : decode cX3_comesNext 29 = .ok (.istore 5, 2) := by decide +kernel
theorem dX3_comesNext_31 : decode cX3_comesNext 31 = .ok (.iload 5, 2) := by decide +kernel
theorem dX3_comesNext_33 : decode cX3_comesNext 33 = .ok (.iconst (-1), 1) := by decide +kernel
theorem dX3_comesNext_34 : decode cX3_comesNext 34 = .ok (.if_icmp .eq 38, 3) := by decide +kernel
theorem dX3_comesNext_37 : decode cX3_comesNext 37 = .ok (.iload 5, 2) := by decide +kernel
theorem dX3_comesNext_39 : decode cX3_comesNext 39 = .ok (.iload_n 1, 1) := by decide +kernel
theorem dX3_comesNext_40 : decode cX3_comesNext 40 = .ok (.if_icmp .gt 32, 3) := by decide +kernel
theorem dX3_comesNext_43 : decode cX3_comesNext 43 = .ok (.aload_n 0, 1) := by decide +kernel
theorem dX3_comesNext_44 : decode cX3_comesNext 44 = .ok (.aload_n 0, 1) := by decide +kernel
theorem dX3_comesNext_45 : decode cX3_comesNext 45 = .ok (.getfield 50, 3) := by decide +kernel
theorem dX3_comesNext_48 : decode cX3_comesNext 48 = .ok (.iload 4, 2) := by decide +kernel
theorem dX3_comesNext_50 : decode cX3_comesNext 50 = .ok (.invokevirtual 109, 3) := by decide +kernel
theorem dX3_comesNext_53 : decode cX3_comesNext 53 = .ok (.iconst (-1), 1) := by decide +kernel
theorem dX3_comesNext_54 : decode cX3_comesNext 54 = .ok (.if_icmp .ne 18, 3) := by decide +kernel
theorem dX3_comesNext_57 : decode cX3_comesNext 57 = .ok (.iload_n 2, 1) := by decide +kernel
theorem dX3_comesNext_58 : decode cX3_comesNext 58 = .ok (.iconst (-1), 1) := by decide +kernel
theorem dX3_comesNext_59 : decode cX3_comesNext 59 = .ok (.if_icmp .eq 9, 3) := by decide +kernel
theorem dX3_comesNext_62 : decode cX3_comesNext 62 = .ok (.iload 5, 2) := by decide +kernel
theorem dX3_comesNext_64 : decode cX3_comesNext 64 = .ok (.iload_n 3, 1) := by decide +kernel
theorem dX3_comesNext_65 : decode cX3_comesNext 65 = .ok (.if_icmp .ge 7, 3) := by decide +kernel
theorem dX3_comesNext_68 : decode cX3_comesNext 68 = .ok (.iconst 1, 1) := by decide +kernel
theorem dX3_comesNext_69 : decode cX3_comesNext 69 = .ok (.goto 4, 3) := by decide +kernel
theorem dX3_comesNext_72 : decode cX3_comesNext 72 = .ok (.iconst 0, 1) := by decide +kernel
theorem dX3_comesNext_73 : decode cX3_comesNext 73 = .ok (.istore 6, 2) := by decide +kernel
theorem dX3_comesNext_75 : decode cX3_comesNext 75 = .ok (.iload 6, 2) := by decide +kernel
theorem dX3_comesNext_77 : decode cX3_comesNext 77 = .ok (.ifCond .eq 8, 3) := by decide +kernel
theorem dX3_comesNext_80 : decode cX3_comesNext 80 = .ok (.iload 4, 2) := by decide +kernel
theorem dX3_comesNext_82 : decode cX3_comesNext 82 = .ok (.goto 4, 3) := by decide +kernel
theorem dX3_comesNext_85 : decode cX3_comesNext 85 = .ok (.iload_n 2, 1) := by decide +kernel
theorem dX3_comesNext_86 : decode cX3_comesNext 86 = .ok (.istore_n 2, 1) := by decide +kernel
theorem dX3_comesNext_87 : decode cX3_comesNext 87 = .ok (.iload 6, 2) := by decide +kernel
theorem dX3_comesNext_89 : decode cX3_comesNext 89 = .ok (.ifCond .eq 8, 3) := by decide +kernel
theorem dX3_comesNext_92 : decode cX3_comesNext 92 = .ok (.iload 5, 2) := by decide +kernel
theorem dX3_comesNext_94 : decode cX3_comesNext 94 = .ok (.goto 4, 3) := by decide +kernel
theorem dX3_comesNext_97 : decode cX3_comesNext 97 = .ok (.iload_n 3, 1) := by decide +kernel
theorem dX3_comesNext_98 : decode cX3_comesNext 98 = .ok (.istore_n 3, 1) := by decide +kernel
theorem dX3_comesNext_99 : decode cX3_comesNext 99 = .ok (.iinc 4 1, 3) := by decide +kernel
theorem dX3_comesNext_102 : decode cX3_comesNext 102 = .ok (.goto (-95), 3) := by decide +kernel
theorem dX3_comesNext_105 : decode cX3_comesNext 105 = .ok (.iload_n 2, 1) := by decide +kernel
theorem dX3_comesNext_106 : decode cX3_comesNext 106 = .ok (.ireturn, 1) := by decide +kernel
theorem dX3_order_0 : decode cX3_order 0 = .ok (.aload_n 0, 1) := by decide +kernel
theorem dX3_order_1 : decode cX3_order 1 = .ok (.iload_n 1, 1) := by decide +kernel
theorem dX3_order_2 : decode cX3_order 2 = .ok (.invokestatic 67, 3) := by decide +kernel
theorem dX3_order_5 : decode cX3_order 5 = .ok (.ifCond .eq 11, 3) := by decide +kernel
theorem dX3_order_8 : decode cX3_order 8 = .ok (.iload_n 2, 1) := by decide +kernel
theorem dX3_order_9 : decode cX3_order 9 = .ok (.ifCond .lt 7, 3) := by decide +kernel
theorem dX3_order_12 : decode cX3_order 12 = .ok (.iconst 0, 1) := by decide +kernel
theorem dX3_order_13 : decode cX3_order 13 = .ok (.goto 4, 3) := by decide +kernel
theorem dX3_order_16 : decode cX3_order 16 = .ok (.iconst 1, 1) := by decide +kernel
theorem dX3_order_17 : decode cX3_order 17 = .ok (.putfield 56, 3) := by decide +kernel
theorem dX3_order_20 : decode cX3_order 20 = .ok (.aload_n 0, 1) := by decide +kernel
theorem dX3_order_21 : decode cX3_order 21 = .ok (.getfield 56, 3) := by decide +kernel
theorem dX3_order_24 : decode cX3_order 24 = .ok (.ifCond .le 5, 3) := by decide +kernel
theorem dX3_order_27 : decode cX3_order 27 = .ok (.iconst 0, 1) := by decide +kernel
theorem dX3_order_28 : decode cX3_order 28 = .ok (.ireturn, 1) := by decide +kernel
theorem dX3_order_29 : decode cX3_order 29 = .ok (.aload_n 0, 1) := by decide +kernel
theorem dX3_order_30 : decode cX3_order 30 = .ok (.invokevirtual 97, 3) := by decide +kernel
theorem dX3_order_33 : decode cX3_order 33 = .ok (.iconst 0, 1) := by decide +kernel
theorem dX3_order_34 : decode cX3_order 34 = .ok (.istore_n 3, 1) := by decide +kernel
theorem dX3_order_35 : decode cX3_order 35 = .ok (.iload_n 3, 1) := by decide +kernel
theorem dX3_order_36 : decode cX3_order 36 = .ok (.aload_n 0, 1) := by decide +kernel
theorem dX3_order_37 : decode cX3_order 37 = .ok (.getfield 64, 3) := by decide +kernel
theorem dX3_order_40 : decode cX3_order 40 = .ok (.if_icmp .ge 21, 3) := by decide +kernel
theorem dX3_order_43 : decode cX3_order 43 = .ok (.aload_n 0, 1) := by decide +kernel
theorem dX3_order_44 : decode cX3_order 44 = .ok (.getfield 50, 3) := by decide +kernel
theorem dX3_order_47 : decode cX3_order 47 = .ok (.iload_n 3, 1) := by decide +kernel
theorem dX3_order_48 : decode cX3_order 48 = .ok (.aload_n 0, 1) := by decide +kernel
theorem dX3_order_49 : decode cX3_order 49 = .ok (.getfield 32, 3) := by decide +kernel
theorem dX3_order_52 : decode cX3_order 52 = .ok (.iload_n 3, 1) := by decide +kernel
theorem dX3_order_53 : decode cX3_order 53 = .ok (.iaload, 1) := by decide +kernel
theorem dX3_order_54 : decode cX3_order 54 = .ok (.iastore, 1) := by decide +kernel
theorem dX3_order_55 : decode cX3_order 55 = .ok (.iinc 3 1, 3) := by decide +kernel
theorem dX3_order_58 : decode cX3_order 58 = .ok (.goto (-23), 3) := by decide +kernel
theorem dX3_order_61 : decode cX3_order 61 = .ok (.aload_n 0, 1) := by decide +kernel
theorem dX3_order_62 : decode cX3_order 62 = .ok (.iload_n 1, 1) := by decide +kernel
theorem dX3_order_63 : decode cX3_order 63 = .ok (.invokevirtual 117, 3) := by decide +kernel
theorem dX3_order_66 : decode cX3_order 66 = .ok (.istore_n 3, 1) := by decide +kernel
theorem dX3_order_67 : decode cX3_order 67 = .ok (.iconst 0, 1) := by decide +kernel
theorem dX3_order_68 : decode cX3_order 68 = .ok (.istore 4, 2) := by decide +kernel
theorem dX3_order_70 : decode cX3_order 70 = .ok (.iload 4, 2) := by decide +kernel
theorem dX3_order_72 : decode cX3_order 72 = .ok (.iload_n 2, 1) := by decide +kernel
theorem dX3_order_73 : decode cX3_order 73 = .ok (.if_icmp .ge 30, 3) := by decide +kernel
theorem dX3_order_76 : decode cX3_order 76 = .ok (.iload_n 3, 1) := by decide +kernel
theorem dX3_order_77 : decode cX3_order 77 = .ok (.iconst (-1), 1) := by decide +kernel
theorem dX3_order_78 : decode cX3_order 78 = .ok (.if_icmp .eq 25, 3) := by decide +kernel
theorem dX3_order_81 : decode cX3_order 81 = .ok (.aload_n 0, 1) := by decide +kernel
theorem dX3_order_82 : decode cX3_order 82 = .ok (.getfield 50, 3) := by decide +kernel
theorem dX3_order_85 : decode cX3_order 85 = .ok (.iload_n 3, 1) := by decide +kernel
theorem dX3_order_86 : decode cX3_order 86 = .ok (.dup2, 1) := by decide +kernel
theorem dX3_order_87 : decode cX3_order 87 = .ok (.iaload, 1) := by decide +kernel
theorem dX3_order_88 : decode cX3_order 88 = .ok (.iconst 1, 1) := by decide +kernel
theorem dX3_order_89 : decode cX3_order 89 = .ok (.iadd, 1) := by decide +kernel
theorem dX3_order_90 : decode cX3_order 90 = .ok (.iastore, 1) := by decide +kernel
theorem dX3_order_91 : decode cX3_order 91 = .ok (.aload_n 0, 1) := by decide +kernel
theorem dX3_order_92 : decode cX3_order 92 = .ok (.iload_n 1, 1) := by decide +kernel
theorem dX3_order_93 : decode cX3_order 93 = .ok (.invokevirtual 117, 3) := by decide +kernel
theorem dX3_order_96 : decode cX3_order 96 = .ok (.istore_n 3, 1) := by decide +kernel
theorem dX3_order_97 : decode cX3_order 97 = .ok (.iinc 4 1, 3) := by decide +kernel
theorem dX3_order_100 : decode cX3_order 100 = .ok (.goto (-30), 3) := by decide +kernel
theorem dX3_order_103 : decode cX3_order 103 = .ok (.iload_n 3, 1) := by decide +kernel
theorem dX3_order_104 : decode cX3_order 104 = .ok (.ireturn, 1) := by decide +kernel
theorem dX3_isCovered_0 : decode cX3_isCovered 0 = .ok (.aload_n 0, 1) := by decide +kernel
theorem dX3_isCovered_1 : decode cX3_isCovered 1 = .ok (.aload_n 0, 1) := by decide +kernel
theorem dX3_isCovered_2 : decode cX3_isCovered 2 = .ok (.iload_n 1, 1) := by decide +kernel
theorem dX3_isCovered_3 : decode cX3_isCovered 3 = .ok (.invokevirtual 84, 3) := by decide +kernel
theorem dX3_isCovered_6 : decode cX3_isCovered 6 = .ok (.ifCond .eq 14, 3) := by decide +kernel
theorem dX3_isCovered_9 : decode cX3_isCovered 9 = .ok (.iload_n 2, 1) := by decide +kernel
theorem dX3_isCovered_10 : decode cX3_isCovered 10 = .ok (.invokestatic 67, 3) := by decide +kernel
theorem dX3_isCovered_13 : decode cX3_isCovered 13 = .ok (.ifCond .eq 7, 3) := by decide +kernel
theorem dX3_isCovered_16 : decode cX3_isCovered 16 = .ok (.iconst 0, 1) := by decide +kernel
theorem dX3_isCovered_17 : decode cX3_isCovered 17 = .ok (.goto 4, 3) := by decide +kernel
theorem dX3_isCovered_20 : decode cX3_isCovered 20 = .ok (.iconst 1, 1) := by decide +kernel
theorem dX3_isCovered_21 : decode cX3_isCovered 21 = .ok (.putfield 56, 3) := by decide +kernel
theorem dX3_isCovered_24 : decode cX3_isCovered 24 = .ok (.aload_n 0, 1) := by decide +kernel
theorem dX3_isCovered_25 : decode cX3_isCovered 25 = .ok (.getfield 56, 3) := by decide +kernel
theorem dX3_isCovered_28 : decode cX3_isCovered 28 = .ok (.ifCond .ne 43, 3) := by decide +kernel
theorem dX3_isCovered_31 : decode cX3_isCovered 31 = .ok (.aload_n 0, 1) := by decide +kernel
theorem dX3_isCovered_32 : decode cX3_isCovered 32 = .ok (.getfield 35, 3) := by decide +kernel
theorem dX3_isCovered_35 : decode cX3_isCovered 35 = .ok (.iload_n 1, 1) := by decide +kernel
theorem dX3_isCovered_36 : decode cX3_isCovered 36 = .ok (.iaload, 1) := by decide +kernel
theorem dX3_isCovered_37 : decode cX3_isCovered 37 = .ok (.iconst (-1), 1) := by decide +kernel
theorem dX3_isCovered_38 : decode cX3_isCovered 38 = .ok (.if_icmp .eq 33, 3) := by decide +kernel
theorem dX3_isCovered_41 : decode cX3_isCovered 41 = .ok (.iload_n 2, 1) := by decide +kernel
theorem dX3_isCovered_42 : decode cX3_isCovered 42 = .ok (.aload_n 0, 1) := by decide +kernel
theorem dX3_isCovered_43 : decode cX3_isCovered 43 = .ok (.getfield 35, 3) := by decide +kernel
theorem dX3_isCovered_46 : decode cX3_isCovered 46 = .ok (.iload_n 1, 1) := by decide +kernel
theorem dX3_isCovered_47 : decode cX3_isCovered 47 = .ok (.iaload, 1) := by decide +kernel
theorem dX3_isCovered_48 : decode cX3_isCovered 48 = .ok (.aload_n 0, 1) := by decide +kernel
theorem dX3_isCovered_49 : decode cX3_isCovered 49 = .ok (.getfield 35, 3) := by decide +kernel
theorem dX3_isCovered_52 : decode cX3_isCovered 52 = .ok (.iload_n 1, 1) := by decide +kernel
theorem dX3_isCovered_53 : decode cX3_isCovered 53 = .ok (.iaload, 1) := by decide +kernel
theorem dX3_isCovered_54 : decode cX3_isCovered 54 = .ok (.aload_n 0, 1) := by decide +kernel
theorem dX3_isCovered_55 : decode cX3_isCovered 55 = .ok (.getfield 29, 3) := by decide +kernel
theorem dX3_isCovered_58 : decode cX3_isCovered 58 = .ok (.iload_n 1, 1) := by decide +kernel
theorem dX3_isCovered_59 : decode cX3_isCovered 59 = .ok (.iaload, 1) := by decide +kernel
theorem dX3_isCovered_60 : decode cX3_isCovered 60 = .ok (.iadd, 1) := by decide +kernel
theorem dX3_isCovered_61 : decode cX3_isCovered 61 = .ok (.invokestatic 60, 3) := by decide +kernel
theorem dX3_isCovered_64 : decode cX3_isCovered 64 = .ok (.ifCond .eq 7, 3) := by decide +kernel
theorem dX3_isCovered_67 : decode cX3_isCovered 67 = .ok (.iconst 1, 1) := by decide +kernel
theorem dX3_isCovered_68 : decode cX3_isCovered 68 = .ok (.goto 4, 3) := by decide +kernel
theorem dX3_isCovered_71 : decode cX3_isCovered 71 = .ok (.iconst 0, 1) := by decide +kernel
theorem dX3_isCovered_72 : decode cX3_isCovered 72 = .ok (.ireturn, 1) := by decide +kernel
theorem dX3_lasts_0 : decode cX3_lasts 0 = .ok (.aload_n 0, 1) := by decide +kernel
theorem dX3_lasts_1 : decode cX3_lasts 1 = .ok (.aload_n 0, 1) := by decide +kernel
theorem dX3_lasts_2 : decode cX3_lasts 2 = .ok (.iload_n 1, 1) := by decide +kernel
theorem dX3_lasts_3 : decode cX3_lasts 3 = .ok (.invokevirtual 84, 3) := by decide +kernel
theorem dX3_lasts_6 : decode cX3_lasts 6 = .ok (.ifCond .ne 7, 3) := by decide +kernel
theorem dX3_lasts_9 : decode cX3_lasts 9 = .ok (.iconst 1, 1) := by decide +kernel
theorem dX3_lasts_10 : decode cX3_lasts 10 = .ok (.goto 18, 3) := by decide +kernel
theorem dX3_lasts_13 : decode cX3_lasts 13 = .ok (.aload_n 0, 1) := by decide +kernel
theorem dX3_lasts_14 : decode cX3_lasts 14 = .ok (.getfield 35, 3) := by decide +kernel
theorem dX3_lasts_17 : decode cX3_lasts 17 = .ok (.iload_n 1, 1) := by decide +kernel
theorem dX3_lasts_18 : decode cX3_lasts 18 = .ok (.iaload, 1) := by decide +kernel
theorem dX3_lasts_19 : decode cX3_lasts 19 = .ok (.iconst (-1), 1) := by decide +kernel
theorem dX3_lasts_20 : decode cX3_lasts 20 = .ok (.if_icmp .ne 7, 3) := by decide +kernel
theorem dX3_lasts_23 : decode cX3_lasts 23 = .ok (.iconst 2, 1) := by decide +kernel
theorem dX3_lasts_24 : decode cX3_lasts 24 = .ok (.goto 4, 3) := by decide +kernel
theorem dX3_lasts_27 : decode cX3_lasts 27 = .ok (.iconst 0, 1) := by decide +kernel
theorem dX3_lasts_28 : decode cX3_lasts 28 = .ok (.putfield 56, 3) := by decide +kernel
theorem dX3_lasts_31 : decode cX3_lasts 31 = .ok (.aload_n 0, 1) := by decide +kernel
theorem dX3_lasts_32 : decode cX3_lasts 32 = .ok (.getfield 56, 3) := by decide +kernel
theorem dX3_lasts_35 : decode cX3_lasts 35 = .ok (.ifCond .le 7, 3) := by decide +kernel
theorem dX3_lasts_38 : decode cX3_lasts 38 = .ok (.iconst 0, 1) := by decide +kernel
theorem dX3_lasts_39 : decode cX3_lasts 39 = .ok (.goto 21, 3) := by decide +kernel
theorem dX3_lasts_42 : decode cX3_lasts 42 = .ok (.aload_n 0, 1) := by decide +kernel
theorem dX3_lasts_43 : decode cX3_lasts 43 = .ok (.getfield 35, 3) := by decide +kernel
theorem dX3_lasts_46 : decode cX3_lasts 46 = .ok (.iload_n 1, 1) := by decide +kernel
theorem dX3_lasts_47 : decode cX3_lasts 47 = .ok (.iaload, 1) := by decide +kernel
theorem dX3_lasts_48 : decode cX3_lasts 48 = .ok (.aload_n 0, 1) := by decide +kernel
theorem dX3_lasts_49 : decode cX3_lasts 49 = .ok (.getfield 29, 3) := by decide +kernel
theorem dX3_lasts_52 : decode cX3_lasts 52 = .ok (.iload_n 1, 1) := by decide +kernel
theorem dX3_lasts_53 : decode cX3_lasts 53 = .ok (.iaload, 1) := by decide +kernel
theorem dX3_lasts_54 : decode cX3_lasts 54 = .ok (.iadd, 1) := by decide +kernel
theorem dX3_lasts_55 : decode cX3_lasts 55 = .ok (.aload_n 0, 1) := by decide +kernel
theorem dX3_lasts_56 : decode cX3_lasts 56 = .ok (.getfield 81, 3) := by decide +kernel
theorem dX3_lasts_59 : decode cX3_lasts 59 = .ok (.isub, 1) := by decide +kernel
theorem dX3_lasts_60 : decode cX3_lasts 60 = .ok (.ireturn, 1) := by decide +kernel
theorem dX3_loadOf_0 : decode cX3_loadOf 0 = .ok (.iconst 0, 1) := by decide +kernel
theorem dX3_loadOf_1 : decode cX3_loadOf 1 = .ok (.istore_n 2, 1) := by decide +kernel
theorem dX3_loadOf_2 : decode cX3_loadOf 2 = .ok (.iconst 0, 1) := by decide +kernel
theorem dX3_loadOf_3 : decode cX3_loadOf 3 = .ok (.istore_n 3, 1) := by decide +kernel
theorem dX3_loadOf_4 : decode cX3_loadOf 4 = .ok (.iload_n 3, 1) := by decide +kernel
theorem dX3_loadOf_5 : decode cX3_loadOf 5 = .ok (.aload_n 0, 1) := by decide +kernel
theorem dX3_loadOf_6 : decode cX3_loadOf 6 = .ok (.getfield 64, 3) := by decide +kernel
theorem dX3_loadOf_9 : decode cX3_loadOf 9 = .ok (.if_icmp .ge 37, 3) := by decide +kernel
theorem dX3_loadOf_12 : decode cX3_loadOf 12 = .ok (.iload_n 2, 1) := by decide +kernel
theorem dX3_loadOf_13 : decode cX3_loadOf 13 = .ok (.aload_n 0, 1) := by decide +kernel
theorem dX3_loadOf_14 : decode cX3_loadOf 14 = .ok (.getfield 41, 3) := by decide +kernel
theorem dX3_loadOf_17 : decode cX3_loadOf 17 = .ok (.sipush 720, 3) := by decide +kernel
theorem dX3_loadOf_20 : decode cX3_loadOf 20 = .ok (.iload_n 3, 1) := by decide +kernel
theorem dX3_loadOf_21 : decode cX3_loadOf 21 = .ok (.imul, 1) := by decide +kernel
theorem dX3_loadOf_22 : decode cX3_loadOf 22 = .ok (.iload_n 1, 1) := by decide +kernel
theorem dX3_loadOf_23 : decode cX3_loadOf 23 = .ok (.iadd, 1) := by decide +kernel
theorem dX3_loadOf_24 : decode cX3_loadOf 24 = .ok (.baload, 1) := by decide +kernel
theorem dX3_loadOf_25 : decode cX3_loadOf 25 = .ok (.ifCond .eq 12, 3) := by decide +kernel
theorem dX3_loadOf_28 : decode cX3_loadOf 28 = .ok (.aload_n 0, 1) := by decide +kernel
theorem dX3_loadOf_29 : decode cX3_loadOf 29 = .ok (.getfield 26, 3) := by decide +kernel
theorem dX3_loadOf_32 : decode cX3_loadOf 32 = .ok (.iload_n 3, 1) := by decide +kernel
theorem dX3_loadOf_33 : decode cX3_loadOf 33 = .ok (.iaload, 1) := by decide +kernel
theorem dX3_loadOf_34 : decode cX3_loadOf 34 = .ok (.goto 4, 3) := by decide +kernel
theorem dX3_loadOf_37 : decode cX3_loadOf 37 = .ok (.iconst 0, 1) := by decide +kernel
theorem dX3_loadOf_38 : decode cX3_loadOf 38 = .ok (.iadd, 1) := by decide +kernel
theorem dX3_loadOf_39 : decode cX3_loadOf 39 = .ok (.istore_n 2, 1) := by decide +kernel
theorem dX3_loadOf_40 : decode cX3_loadOf 40 = .ok (.iinc 3 1, 3) := by decide +kernel
theorem dX3_loadOf_43 : decode cX3_loadOf 43 = .ok (.goto (-39), 3) := by decide +kernel
theorem dX3_loadOf_46 : decode cX3_loadOf 46 = .ok (.iload_n 2, 1) := by decide +kernel
theorem dX3_loadOf_47 : decode cX3_loadOf 47 = .ok (.ireturn, 1) := by decide +kernel
theorem dX3_load_0 : decode cX3_load 0 = .ok (.aload_n 0, 1) := by decide +kernel
theorem dX3_load_1 : decode cX3_load 1 = .ok (.iload_n 1, 1) := by decide +kernel
theorem dX3_load_2 : decode cX3_load 2 = .ok (.invokestatic 67, 3) := by decide +kernel
theorem dX3_load_5 : decode cX3_load 5 = .ok (.ifCond .eq 7, 3) := by decide +kernel
theorem dX3_load_8 : decode cX3_load 8 = .ok (.iconst 0, 1) := by decide +kernel
theorem dX3_load_9 : decode cX3_load 9 = .ok (.goto 4, 3) := by decide +kernel
theorem dX3_load_12 : decode cX3_load 12 = .ok (.iconst 1, 1) := by decide +kernel
theorem dX3_load_13 : decode cX3_load 13 = .ok (.putfield 56, 3) := by decide +kernel
theorem dX3_load_16 : decode cX3_load 16 = .ok (.aload_n 0, 1) := by decide +kernel
theorem dX3_load_17 : decode cX3_load 17 = .ok (.invokevirtual 97, 3) := by decide +kernel
theorem dX3_load_20 : decode cX3_load 20 = .ok (.aload_n 0, 1) := by decide +kernel
theorem dX3_load_21 : decode cX3_load 21 = .ok (.getfield 56, 3) := by decide +kernel
theorem dX3_load_24 : decode cX3_load 24 = .ok (.ifCond .le 7, 3) := by decide +kernel
theorem dX3_load_27 : decode cX3_load 27 = .ok (.iconst 0, 1) := by decide +kernel
theorem dX3_load_28 : decode cX3_load 28 = .ok (.goto 8, 3) := by decide +kernel
theorem dX3_load_31 : decode cX3_load 31 = .ok (.aload_n 0, 1) := by decide +kernel
theorem dX3_load_32 : decode cX3_load 32 = .ok (.iload_n 1, 1) := by decide +kernel
theorem dX3_load_33 : decode cX3_load 33 = .ok (.invokevirtual 120, 3) := by decide +kernel
theorem dX3_load_36 : decode cX3_load 36 = .ok (.ireturn, 1) := by decide +kernel
theorem dX3_heaviest_0 : decode cX3_heaviest 0 = .ok (.aload_n 0, 1) := by decide +kernel
theorem dX3_heaviest_1 : decode cX3_heaviest 1 = .ok (.iload_n 1, 1) := by decide +kernel
theorem dX3_heaviest_2 : decode cX3_heaviest 2 = .ok (.iload_n 2, 1) := by decide +kernel
theorem dX3_heaviest_3 : decode cX3_heaviest 3 = .ok (.invokestatic 74, 3) := by decide +kernel
theorem dX3_heaviest_6 : decode cX3_heaviest 6 = .ok (.putfield 56, 3) := by decide +kernel
theorem dX3_heaviest_9 : decode cX3_heaviest 9 = .ok (.aload_n 0, 1) := by decide +kernel
theorem dX3_heaviest_10 : decode cX3_heaviest 10 = .ok (.invokevirtual 97, 3) := by decide +kernel
theorem dX3_heaviest_13 : decode cX3_heaviest 13 = .ok (.iload_n 1, 1) := by decide +kernel
theorem dX3_heaviest_14 : decode cX3_heaviest 14 = .ok (.istore_n 3, 1) := by decide +kernel
theorem dX3_heaviest_15 : decode cX3_heaviest 15 = .ok (.iload_n 1, 1) := by decide +kernel
theorem dX3_heaviest_16 : decode cX3_heaviest 16 = .ok (.istore 4, 2) := by decide +kernel
theorem dX3_heaviest_18 : decode cX3_heaviest 18 = .ok (.iload 4, 2) := by decide +kernel
theorem dX3_heaviest_20 : decode cX3_heaviest 20 = .ok (.iload_n 2, 1) := by decide +kernel
theorem dX3_heaviest_21 : decode cX3_heaviest 21 = .ok (.if_icmp .gt 37, 3) := by decide +kernel
theorem dX3_heaviest_24 : decode cX3_heaviest 24 = .ok (.aload_n 0, 1) := by decide +kernel
theorem dX3_heaviest_25 : decode cX3_heaviest 25 = .ok (.getfield 56, 3) := by decide +kernel
theorem dX3_heaviest_28 : decode cX3_heaviest 28 = .ok (.ifCond .ne 30, 3) := by decide +kernel
theorem dX3_heaviest_31 : decode cX3_heaviest 31 = .ok (.aload_n 0, 1) := by decide +kernel
theorem dX3_heaviest_32 : decode cX3_heaviest 32 = .ok (.iload 4, 2) := by decide +kernel
theorem dX3_heaviest_34 : decode cX3_heaviest 34 = .ok (.invokevirtual 120, 3) := by decide +kernel
theorem dX3_heaviest_37 : decode cX3_heaviest 37 = .ok (.aload_n 0, 1) := by decide +kernel
theorem dX3_heaviest_38 : decode cX3_heaviest 38 = .ok (.iload_n 3, 1) := by decide +kernel
theorem dX3_heaviest_39 : decode cX3_heaviest 39 = .ok (.invokevirtual 120, 3) := by decide +kernel
theorem dX3_heaviest_42 : decode cX3_heaviest 42 = .ok (.if_icmp .le 8, 3) := by decide +kernel
theorem dX3_heaviest_45 : decode cX3_heaviest 45 = .ok (.iload 4, 2) := by decide +kernel
theorem dX3_heaviest_47 : decode cX3_heaviest 47 = .ok (.goto 4, 3) := by decide +kernel
theorem dX3_heaviest_50 : decode cX3_heaviest 50 = .ok (.iload_n 3, 1) := by decide +kernel
theorem dX3_heaviest_51 : decode cX3_heaviest 51 = .ok (.istore_n 3, 1) := by decide +kernel
theorem dX3_heaviest_52 : decode cX3_heaviest 52 = .ok (.iinc 4 1, 3) := by decide +kernel
theorem dX3_heaviest_55 : decode cX3_heaviest 55 = .ok (.goto (-37), 3) := by decide +kernel
theorem dX3_heaviest_58 : decode cX3_heaviest 58 = .ok (.aload_n 0, 1) := by decide +kernel
theorem dX3_heaviest_59 : decode cX3_heaviest 59 = .ok (.getfield 56, 3) := by decide +kernel
theorem dX3_heaviest_62 : decode cX3_heaviest 62 = .ok (.ifCond .le 7, 3) := by decide +kernel
theorem dX3_heaviest_65 : decode cX3_heaviest 65 = .ok (.iconst 0, 1) := by decide +kernel
theorem dX3_heaviest_66 : decode cX3_heaviest 66 = .ok (.goto 4, 3) := by decide +kernel
theorem dX3_heaviest_69 : decode cX3_heaviest 69 = .ok (.iload_n 3, 1) := by decide +kernel
theorem dX3_heaviest_70 : decode cX3_heaviest 70 = .ok (.ireturn, 1) := by decide +kernel
theorem dX3_lays_0 : decode cX3_lays 0 = .ok (.iload_n 2, 1) := by decide +kernel
theorem dX3_lays_1 : decode cX3_lays 1 = .ok (.istore 5, 2) := by decide +kernel
theorem dX3_lays_3 : decode cX3_lays 3 = .ok (.iload 5, 2) := by decide +kernel
theorem dX3_lays_5 : decode cX3_lays 5 = .ok (.iload_n 1, 1) := by decide +kernel
theorem dX3_lays_6 : decode cX3_lays 6 = .ok (.if_icmp .lt 32, 3) := by decide +kernel
theorem dX3_lays_9 : decode cX3_lays 9 = .ok (.aload_n 0, 1) := by decide +kernel
theorem dX3_lays_10 : decode cX3_lays 10 = .ok (.iload 5, 2) := by decide +kernel
theorem dX3_lays_12 : decode cX3_lays 12 = .ok (.invokevirtual 71, 3) := by decide +kernel
theorem dX3_lays_15 : decode cX3_lays 15 = .ok (.ifCond .eq 17, 3) := by decide +kernel
theorem dX3_lays_18 : decode cX3_lays 18 = .ok (.aload_n 0, 1) := by decide +kernel
theorem dX3_lays_19 : decode cX3_lays 19 = .ok (.getfield 53, 3) := by decide +kernel
theorem dX3_lays_22 : decode cX3_lays 22 = .ok (.iload 5, 2) := by decide +kernel
theorem dX3_lays_24 : decode cX3_lays 24 = .ok (.iaload, 1) := by decide +kernel
theorem dX3_lays_25 : decode cX3_lays 25 = .ok (.iload_n 3, 1) := by decide +kernel
theorem dX3_lays_26 : decode cX3_lays 26 = .ok (.iadd, 1) := by decide +kernel
theorem dX3_lays_27 : decode cX3_lays 27 = .ok (.iload 4, 2) := by decide +kernel
theorem dX3_lays_29 : decode cX3_lays 29 = .ok (.if_icmp .le 9, 3) := by decide +kernel
theorem dX3_lays_32 : decode cX3_lays 32 = .ok (.iinc 5 (-1), 3) := by decide +kernel
theorem dX3_lays_35 : decode cX3_lays 35 = .ok (.goto (-32), 3) := by decide +kernel
theorem dX3_lays_38 : decode cX3_lays 38 = .ok (.iload 5, 2) := by decide +kernel
theorem dX3_lays_40 : decode cX3_lays 40 = .ok (.iload_n 1, 1) := by decide +kernel
theorem dX3_lays_41 : decode cX3_lays 41 = .ok (.if_icmp .lt 17, 3) := by decide +kernel
theorem dX3_lays_44 : decode cX3_lays 44 = .ok (.aload_n 0, 1) := by decide +kernel
theorem dX3_lays_45 : decode cX3_lays 45 = .ok (.getfield 53, 3) := by decide +kernel
theorem dX3_lays_48 : decode cX3_lays 48 = .ok (.iload 5, 2) := by decide +kernel
theorem dX3_lays_50 : decode cX3_lays 50 = .ok (.dup2, 1) := by decide +kernel
theorem dX3_lays_51 : decode cX3_lays 51 = .ok (.iaload, 1) := by decide +kernel
theorem dX3_lays_52 : decode cX3_lays 52 = .ok (.iload_n 3, 1) := by decide +kernel
theorem dX3_lays_53 : decode cX3_lays 53 = .ok (.iadd, 1) := by decide +kernel
theorem dX3_lays_54 : decode cX3_lays 54 = .ok (.iastore, 1) := by decide +kernel
theorem dX3_lays_55 : decode cX3_lays 55 = .ok (.goto 13, 3) := by decide +kernel
theorem dX3_lays_58 : decode cX3_lays 58 = .ok (.aload_n 0, 1) := by decide +kernel
theorem dX3_lays_59 : decode cX3_lays 59 = .ok (.dup, 1) := by decide +kernel
theorem dX3_lays_60 : decode cX3_lays 60 = .ok (.getfield 123, 3) := by decide +kernel
theorem dX3_lays_63 : decode cX3_lays 63 = .ok (.iload_n 3, 1) := by decide +kernel
theorem dX3_lays_64 : decode cX3_lays 64 = .ok (.iadd, 1) := by decide +kernel
theorem dX3_lays_65 : decode cX3_lays 65 = .ok (.putfield 123, 3) := by decide +kernel
theorem dX3_lays_68 : decode cX3_lays 68 = .ok (.return_, 1) := by decide +kernel
theorem dX3_levels_0 : decode cX3_levels 0 = .ok (.aload_n 0, 1) := by decide +kernel
theorem dX3_levels_1 : decode cX3_levels 1 = .ok (.invokevirtual 97, 3) := by decide +kernel
theorem dX3_levels_4 : decode cX3_levels 4 = .ok (.aload_n 0, 1) := by decide +kernel
theorem dX3_levels_5 : decode cX3_levels 5 = .ok (.iconst 0, 1) := by decide +kernel
theorem dX3_levels_6 : decode cX3_levels 6 = .ok (.putfield 123, 3) := by decide +kernel
theorem dX3_levels_9 : decode cX3_levels 9 = .ok (.iconst 0, 1) := by decide +kernel
theorem dX3_levels_10 : decode cX3_levels 10 = .ok (.istore 4, 2) := by decide +kernel
theorem dX3_levels_12 : decode cX3_levels 12 = .ok (.iload 4, 2) := by decide +kernel
theorem dX3_levels_14 : decode cX3_levels 14 = .ok (.sipush 720, 3) := by decide +kernel
theorem dX3_levels_17 : decode cX3_levels 17 = .ok (.if_icmp .ge 17, 3) := by decide +kernel
theorem dX3_levels_20 : decode cX3_levels 20 = .ok (.aload_n 0, 1) := by decide +kernel
theorem dX3_levels_21 : decode cX3_levels 21 = .ok (.getfield 53, 3) := by decide +kernel
theorem dX3_levels_24 : decode cX3_levels 24 = .ok (.iload 4, 2) := by decide +kernel
theorem dX3_levels_26 : decode cX3_levels 26 = .ok (.iconst 0, 1) := by decide +kernel
theorem dX3_levels_27 : decode cX3_levels 27 = .ok (.iastore, 1) := by decide +kernel
theorem dX3_levels_28 : decode cX3_levels 28 = .ok (.iinc 4 1, 3) := by decide +kernel
theorem dX3_levels_31 : decode cX3_levels 31 = .ok (.goto (-19), 3) := by decide +kernel
theorem dX3_levels_34 : decode cX3_levels 34 = .ok (.iload_n 1, 1) := by decide +kernel
theorem dX3_levels_35 : decode cX3_levels 35 = .ok (.istore 4, 2) := by decide +kernel
theorem dX3_levels_37 : decode cX3_levels 37 = .ok (.iload 4, 2) := by decide +kernel
theorem dX3_levels_39 : decode cX3_levels 39 = .ok (.iload_n 2, 1) := by decide +kernel
theorem dX3_levels_40 : decode cX3_levels 40 = .ok (.if_icmp .gt 59, 3) := by decide +kernel
theorem dX3_levels_43 : decode cX3_levels 43 = .ok (.iconst 0, 1) := by decide +kernel
theorem dX3_levels_44 : decode cX3_levels 44 = .ok (.istore 5, 2) := by decide +kernel
theorem dX3_levels_46 : decode cX3_levels 46 = .ok (.iload 5, 2) := by decide +kernel
theorem dX3_levels_48 : decode cX3_levels 48 = .ok (.aload_n 0, 1) := by decide +kernel
theorem dX3_levels_49 : decode cX3_levels 49 = .ok (.getfield 64, 3) := by decide +kernel
theorem dX3_levels_52 : decode cX3_levels 52 = .ok (.if_icmp .ge 41, 3) := by decide +kernel
theorem dX3_levels_55 : decode cX3_levels 55 = .ok (.aload_n 0, 1) := by decide +kernel
theorem dX3_levels_56 : decode cX3_levels 56 = .ok (.getfield 41, 3) := by decide +kernel
theorem dX3_levels_59 : decode cX3_levels 59 = .ok (.sipush 720, 3) := by decide +kernel
theorem dX3_levels_62 : decode cX3_levels 62 = .ok (.iload 5, 2) := by decide +kernel
theorem dX3_levels_64 : decode cX3_levels 64 = .ok (.imul, 1) := by decide +kernel
theorem dX3_levels_65 : decode cX3_levels 65 = .ok (.iload 4, 2) := by decide +kernel
theorem dX3_levels_67 : decode cX3_levels 67 = .ok (.iadd, 1) := by decide +kernel
theorem dX3_levels_68 : decode cX3_levels 68 = .ok (.baload, 1) := by decide +kernel
theorem dX3_levels_69 : decode cX3_levels 69 = .ok (.ifCond .eq 18, 3) := by decide +kernel
theorem dX3_levels_72 : decode cX3_levels 72 = .ok (.aload_n 0, 1) := by decide +kernel
theorem dX3_levels_73 : decode cX3_levels 73 = .ok (.iload_n 1, 1) := by decide +kernel
theorem dX3_levels_74 : decode cX3_levels 74 = .ok (.iload 4, 2) := by decide +kernel
theorem dX3_levels_76 : decode cX3_levels 76 = .ok (.aload_n 0, 1) := by decide +kernel
theorem dX3_levels_77 : decode cX3_levels 77 = .ok (.getfield 26, 3) := by decide +kernel
theorem dX3_levels_80 : decode cX3_levels 80 = .ok (.iload 5, 2) := by decide +kernel
theorem dX3_levels_82 : decode cX3_levels 82 = .ok (.iaload, 1) := by decide +kernel
theorem dX3_levels_83 : decode cX3_levels 83 = .ok (.iload_n 3, 1) := by decide +kernel
theorem dX3_levels_84 : decode cX3_levels 84 = .ok (.invokevirtual 126, 3) := by decide +kernel
theorem dX3_levels_87 : decode cX3_levels 87 = .ok (.iinc 5 1, 3) := by decide +kernel
theorem dX3_levels_90 : decode cX3_levels 90 = .ok (.goto (-44), 3) := by decide +kernel
theorem dX3_levels_93 : decode cX3_levels 93 = .ok (.iinc 4 1, 3) := by decide +kernel
theorem dX3_levels_96 : decode cX3_levels 96 = .ok (.goto (-59), 3) := by decide +kernel
theorem dX3_levels_99 : decode cX3_levels 99 = .ok (.return_, 1) := by decide +kernel
theorem dX3_barsLevel_0 : decode cX3_barsLevel 0 = .ok (.iload 4, 2) := by decide +kernel
theorem dX3_barsLevel_2 : decode cX3_barsLevel 2 = .ok (.invokestatic 67, 3) := by decide +kernel
theorem dX3_barsLevel_5 : decode cX3_barsLevel 5 = .ok (.ifCond .ne 7, 3) := by decide +kernel
theorem dX3_barsLevel_8 : decode cX3_barsLevel 8 = .ok (.iconst 1, 1) := by decide +kernel
theorem dX3_barsLevel_9 : decode cX3_barsLevel 9 = .ok (.goto 34, 3) := by decide +kernel
theorem dX3_barsLevel_12 : decode cX3_barsLevel 12 = .ok (.iload_n 1, 1) := by decide +kernel
theorem dX3_barsLevel_13 : decode cX3_barsLevel 13 = .ok (.iload_n 2, 1) := by decide +kernel
theorem dX3_barsLevel_14 : decode cX3_barsLevel 14 = .ok (.invokestatic 74, 3) := by decide +kernel
theorem dX3_barsLevel_17 : decode cX3_barsLevel 17 = .ok (.ifCond .le 11, 3) := by decide +kernel
theorem dX3_barsLevel_20 : decode cX3_barsLevel 20 = .ok (.iload_n 1, 1) := by decide +kernel
theorem dX3_barsLevel_21 : decode cX3_barsLevel 21 = .ok (.iload_n 2, 1) := by decide +kernel
theorem dX3_barsLevel_22 : decode cX3_barsLevel 22 = .ok (.invokestatic 74, 3) := by decide +kernel
theorem dX3_barsLevel_25 : decode cX3_barsLevel 25 = .ok (.goto 18, 3) := by decide +kernel
theorem dX3_barsLevel_28 : decode cX3_barsLevel 28 = .ok (.iload_n 3, 1) := by decide +kernel
theorem dX3_barsLevel_29 : decode cX3_barsLevel 29 = .ok (.iconst 1, 1) := by decide +kernel
theorem dX3_barsLevel_30 : decode cX3_barsLevel 30 = .ok (.bipush 99, 2) := by decide +kernel
theorem dX3_barsLevel_32 : decode cX3_barsLevel 32 = .ok (.invokestatic 60, 3) := by decide +kernel
theorem dX3_barsLevel_35 : decode cX3_barsLevel 35 = .ok (.ifCond .eq 7, 3) := by decide +kernel
theorem dX3_barsLevel_38 : decode cX3_barsLevel 38 = .ok (.iconst 0, 1) := by decide +kernel
theorem dX3_barsLevel_39 : decode cX3_barsLevel 39 = .ok (.goto 4, 3) := by decide +kernel
theorem dX3_barsLevel_42 : decode cX3_barsLevel 42 = .ok (.iconst 2, 1) := by decide +kernel
theorem dX3_barsLevel_43 : decode cX3_barsLevel 43 = .ok (.ireturn, 1) := by decide +kernel
theorem dX3_level_0 : decode cX3_level 0 = .ok (.aload_n 0, 1) := by decide +kernel
theorem dX3_level_1 : decode cX3_level 1 = .ok (.aload_n 0, 1) := by decide +kernel
theorem dX3_level_2 : decode cX3_level 2 = .ok (.iload_n 1, 1) := by decide +kernel
theorem dX3_level_3 : decode cX3_level 3 = .ok (.iload_n 2, 1) := by decide +kernel
theorem dX3_level_4 : decode cX3_level 4 = .ok (.iload_n 3, 1) := by decide +kernel
theorem dX3_level_5 : decode cX3_level 5 = .ok (.iconst 0, 1) := by decide +kernel
theorem dX3_level_6 : decode cX3_level 6 = .ok (.invokevirtual 130, 3) := by decide +kernel
theorem dX3_level_9 : decode cX3_level 9 = .ok (.putfield 56, 3) := by decide +kernel
theorem dX3_level_12 : decode cX3_level 12 = .ok (.aload_n 0, 1) := by decide +kernel
theorem dX3_level_13 : decode cX3_level 13 = .ok (.getfield 56, 3) := by decide +kernel
theorem dX3_level_16 : decode cX3_level 16 = .ok (.ifCond .le 5, 3) := by decide +kernel
theorem dX3_level_19 : decode cX3_level 19 = .ok (.iconst 0, 1) := by decide +kernel
theorem dX3_level_20 : decode cX3_level 20 = .ok (.ireturn, 1) := by decide +kernel
theorem dX3_level_21 : decode cX3_level 21 = .ok (.aload_n 0, 1) := by decide +kernel
theorem dX3_level_22 : decode cX3_level 22 = .ok (.iload_n 1, 1) := by decide +kernel
theorem dX3_level_23 : decode cX3_level 23 = .ok (.iload_n 2, 1) := by decide +kernel
theorem dX3_level_24 : decode cX3_level 24 = .ok (.iload_n 3, 1) := by decide +kernel
theorem dX3_level_25 : decode cX3_level 25 = .ok (.invokevirtual 134, 3) := by decide +kernel
theorem dX3_level_28 : decode cX3_level 28 = .ok (.aload_n 0, 1) := by decide +kernel
theorem dX3_level_29 : decode cX3_level 29 = .ok (.getfield 123, 3) := by decide +kernel
theorem dX3_level_32 : decode cX3_level 32 = .ok (.ireturn, 1) := by decide +kernel
theorem dX3_levelled_0 : decode cX3_levelled 0 = .ok (.aload_n 0, 1) := by decide +kernel
theorem dX3_levelled_1 : decode cX3_levelled 1 = .ok (.aload_n 0, 1) := by decide +kernel
theorem dX3_levelled_2 : decode cX3_levelled 2 = .ok (.iload_n 1, 1) := by decide +kernel
theorem dX3_levelled_3 : decode cX3_levelled 3 = .ok (.iload_n 2, 1) := by decide +kernel
theorem dX3_levelled_4 : decode cX3_levelled 4 = .ok (.iload_n 3, 1) := by decide +kernel
theorem dX3_levelled_5 : decode cX3_levelled 5 = .ok (.iload 4, 2) := by decide +kernel
theorem dX3_levelled_7 : decode cX3_levelled 7 = .ok (.invokevirtual 130, 3) := by decide +kernel
theorem dX3_levelled_10 : decode cX3_levelled 10 = .ok (.putfield 56, 3) := by decide +kernel
theorem dX3_levelled_13 : decode cX3_levelled 13 = .ok (.aload_n 0, 1) := by decide +kernel
theorem dX3_levelled_14 : decode cX3_levelled 14 = .ok (.getfield 56, 3) := by decide +kernel
theorem dX3_levelled_17 : decode cX3_levelled 17 = .ok (.ifCond .le 5, 3) := by decide +kernel
theorem dX3_levelled_20 : decode cX3_levelled 20 = .ok (.iconst 0, 1) := by decide +kernel
theorem dX3_levelled_21 : decode cX3_levelled 21 = .ok (.ireturn, 1) := by decide +kernel
theorem dX3_levelled_22 : decode cX3_levelled 22 = .ok (.aload_n 0, 1) := by decide +kernel
theorem dX3_levelled_23 : decode cX3_levelled 23 = .ok (.iload_n 1, 1) := by decide +kernel
theorem dX3_levelled_24 : decode cX3_levelled 24 = .ok (.iload_n 2, 1) := by decide +kernel
theorem dX3_levelled_25 : decode cX3_levelled 25 = .ok (.iload_n 3, 1) := by decide +kernel
theorem dX3_levelled_26 : decode cX3_levelled 26 = .ok (.invokevirtual 134, 3) := by decide +kernel
theorem dX3_levelled_29 : decode cX3_levelled 29 = .ok (.aload_n 0, 1) := by decide +kernel
theorem dX3_levelled_30 : decode cX3_levelled 30 = .ok (.getfield 53, 3) := by decide +kernel
theorem dX3_levelled_33 : decode cX3_levelled 33 = .ok (.iload 4, 2) := by decide +kernel
theorem dX3_levelled_35 : decode cX3_levelled 35 = .ok (.iaload, 1) := by decide +kernel
theorem dX3_levelled_36 : decode cX3_levelled 36 = .ok (.ireturn, 1) := by decide +kernel
theorem dJ9_max_7cf53_0 : decode cJ9_max_7cf53 0 = .ok (.iload_n 0, 1) := by decide +kernel
theorem dJ9_max_7cf53_1 : decode cJ9_max_7cf53 1 = .ok (.iload_n 1, 1) := by decide +kernel
theorem dJ9_max_7cf53_2 : decode cJ9_max_7cf53 2 = .ok (.if_icmp .lt 7, 3) := by decide +kernel
theorem dJ9_max_7cf53_5 : decode cJ9_max_7cf53 5 = .ok (.iload_n 0, 1) := by decide +kernel
theorem dJ9_max_7cf53_6 : decode cJ9_max_7cf53 6 = .ok (.goto 4, 3) := by decide +kernel
theorem dJ9_max_7cf53_9 : decode cJ9_max_7cf53 9 = .ok (.iload_n 1, 1) := by decide +kernel
theorem dJ9_max_7cf53_10 : decode cJ9_max_7cf53 10 = .ok (.ireturn, 1) := by decide +kernel
theorem dJ9_min_7cf53_0 : decode cJ9_min_7cf53 0 = .ok (.iload_n 0, 1) := by decide +kernel
theorem dJ9_min_7cf53_1 : decode cJ9_min_7cf53 1 = .ok (.iload_n 1, 1) := by decide +kernel
theorem dJ9_min_7cf53_2 : decode cJ9_min_7cf53 2 = .ok (.if_icmp .gt 7, 3) := by decide +kernel
theorem dJ9_min_7cf53_5 : decode cJ9_min_7cf53 5 = .ok (.iload_n 0, 1) := by decide +kernel
theorem dJ9_min_7cf53_6 : decode cJ9_min_7cf53 6 = .ok (.goto 4, 3) := by decide +kernel
theorem dJ9_min_7cf53_9 : decode cJ9_min_7cf53 9 = .ok (.iload_n 1, 1) := by decide +kernel
theorem dJ9_min_7cf53_10 : decode cJ9_min_7cf53 10 = .ok (.ireturn, 1) := by decide +kernel
theorem dJxa1e45_init_da8c8_0 : decode cJxa1e45_init_da8c8 0 = .ok (.aload_n 0, 1) := by decide +kernel
theorem dJxa1e45_init_da8c8_1 : decode cJxa1e45_init_da8c8 1 = .ok (.invokespecial 1, 3) := by decide +kernel
theorem dJxa1e45_init_da8c8_4 : decode cJxa1e45_init_da8c8 4 = .ok (.return_, 1) := by decide +kernel
theorem dJxc12de_init_da8c8_0 : decode cJxc12de_init_da8c8 0 = .ok (.aload_n 0, 1) := by decide +kernel
theorem dJxc12de_init_da8c8_1 : decode cJxc12de_init_da8c8 1 = .ok (.invokespecial 1, 3) := by decide +kernel
theorem dJxc12de_init_da8c8_4 : decode cJxc12de_init_da8c8 4 = .ok (.aload_n 0, 1) := by decide +kernel
theorem dJxc12de_init_da8c8_5 : decode cJxc12de_init_da8c8 5 = .ok (.iconst 0, 1) := by decide +kernel
theorem dJxc12de_init_da8c8_6 : decode cJxc12de_init_da8c8 6 = .ok (.putfield 7, 3) := by decide +kernel
theorem dJxc12de_init_da8c8_9 : decode cJxc12de_init_da8c8 9 = .ok (.return_, 1) := by decide +kernel
theorem dJx4a65c_init_da8c8_0 : decode cJx4a65c_init_da8c8 0 = .ok (.aload_n 0, 1) := by decide +kernel
theorem dJx4a65c_init_da8c8_1 : decode cJx4a65c_init_da8c8 1 = .ok (.invokespecial 1, 3) := by decide +kernel
theorem dJx4a65c_init_da8c8_4 : decode cJx4a65c_init_da8c8 4 = .ok (.aload_n 0, 1) := by decide +kernel
theorem dJx4a65c_init_da8c8_5 : decode cJx4a65c_init_da8c8 5 = .ok (.getstatic 39, 3) := by decide +kernel
theorem dJx4a65c_init_da8c8_8 : decode cJx4a65c_init_da8c8 8 = .ok (.putfield 9, 3) := by decide +kernel
theorem dJx4a65c_init_da8c8_11 : decode cJx4a65c_init_da8c8 11 = .ok (.return_, 1) := by decide +kernel
theorem dJx4a65c_grow_92f84_0 : decode cJx4a65c_grow_92f84 0 = .ok (.aload_n 0, 1) := by decide +kernel
theorem dJx4a65c_grow_92f84_1 : decode cJx4a65c_grow_92f84 1 = .ok (.getfield 9, 3) := by decide +kernel
theorem dJx4a65c_grow_92f84_4 : decode cJx4a65c_grow_92f84 4 = .ok (.arraylength, 1) := by decide +kernel
theorem dJx4a65c_grow_92f84_5 : decode cJx4a65c_grow_92f84 5 = .ok (.istore_n 2, 1) := by decide +kernel
theorem dJx4a65c_grow_92f84_6 : decode cJx4a65c_grow_92f84 6 = .ok (.iload_n 2, 1) := by decide +kernel
theorem dJx4a65c_grow_92f84_7 : decode cJx4a65c_grow_92f84 7 = .ok (.ifCond .gt 13, 3) := by decide +kernel
theorem dJx4a65c_grow_92f84_10 : decode cJx4a65c_grow_92f84 10 = .ok (.aload_n 0, 1) := by decide +kernel
theorem dJx4a65c_grow_92f84_11 : decode cJx4a65c_grow_92f84 11 = .ok (.getfield 9, 3) := by decide +kernel
theorem dJx4a65c_grow_92f84_14 : decode cJx4a65c_grow_92f84 14 = .ok (.getstatic 39, 3) := by decide +kernel
theorem dJx4a65c_grow_92f84_17 : decode cJx4a65c_grow_92f84 17 = .ok (.if_acmp .eq 28, 3) := by decide +kernel
theorem dJx4a65c_grow_92f84_20 : decode cJx4a65c_grow_92f84 20 = .ok (.iload_n 2, 1) := by decide +kernel
theorem dJx4a65c_grow_92f84_21 : decode cJx4a65c_grow_92f84 21 = .ok (.iload_n 1, 1) := by decide +kernel
theorem dJx4a65c_grow_92f84_22 : decode cJx4a65c_grow_92f84 22 = .ok (.iload_n 2, 1) := by decide +kernel
theorem dJx4a65c_grow_92f84_23 : decode cJx4a65c_grow_92f84 23 = .ok (.isub, 1) := by decide +kernel
theorem dJx4a65c_grow_92f84_24 : decode cJx4a65c_grow_92f84 24 = .ok (.iload_n 2, 1) := by decide +kernel
theorem dJx4a65c_grow_92f84_25 : decode cJx4a65c_grow_92f84 25 = .ok (.iconst 1, 1) := by decide +kernel
theorem dJx4a65c_grow_92f84_26 : decode cJx4a65c_grow_92f84 26 = .ok (.ishr, 1) := by decide +kernel
theorem dJx4a65c_grow_92f84_27 : decode cJx4a65c_grow_92f84 27 = .ok (.invokestatic 73, 3) := by decide +kernel
theorem dJx4a65c_grow_92f84_30 : decode cJx4a65c_grow_92f84 30 = .ok (.istore_n 3, 1) := by decide +kernel
theorem dJx4a65c_grow_92f84_31 : decode cJx4a65c_grow_92f84 31 = .ok (.aload_n 0, 1) := by decide +kernel
theorem dJx4a65c_grow_92f84_32 : decode cJx4a65c_grow_92f84 32 = .ok (.aload_n 0, 1) := by decide +kernel
theorem dJx4a65c_grow_92f84_33 : decode cJx4a65c_grow_92f84 33 = .ok (.getfield 9, 3) := by decide +kernel
theorem dJx4a65c_grow_92f84_36 : decode cJx4a65c_grow_92f84 36 = .ok (.iload_n 3, 1) := by decide +kernel
theorem dJx4a65c_grow_92f84_37 : decode cJx4a65c_grow_92f84 37 = .ok (.invokestatic 66, 3) := by decide +kernel
theorem dJx4a65c_grow_92f84_40 : decode cJx4a65c_grow_92f84 40 = .ok (.dup_x1, 1) := by decide +kernel
theorem dJx4a65c_grow_92f84_41 : decode cJx4a65c_grow_92f84 41 = .ok (.putfield 9, 3) := by decide +kernel
theorem dJx4a65c_grow_92f84_44 : decode cJx4a65c_grow_92f84 44 = .ok (.areturn, 1) := by decide +kernel
theorem dJx4a65c_grow_92f84_45 : decode cJx4a65c_grow_92f84 45 = .ok (.aload_n 0, 1) := by decide +kernel
theorem dJx4a65c_grow_92f84_46 : decode cJx4a65c_grow_92f84 46 = .ok (.bipush 10, 2) := by decide +kernel
theorem dJx4a65c_grow_92f84_48 : decode cJx4a65c_grow_92f84 48 = .ok (.iload_n 1, 1) := by decide +kernel
theorem dJx4a65c_grow_92f84_49 : decode cJx4a65c_grow_92f84 49 = .ok (.invokestatic 79, 3) := by decide +kernel
theorem dJx4a65c_grow_92f84_52 : decode cJx4a65c_grow_92f84 52 = .ok (.anewarray 7, 3) := by decide +kernel
theorem dJx4a65c_grow_92f84_55 : decode cJx4a65c_grow_92f84 55 = .ok (.dup_x1, 1) := by decide +kernel
theorem dJx4a65c_grow_92f84_56 : decode cJx4a65c_grow_92f84 56 = .ok (.putfield 9, 3) := by decide +kernel
theorem dJx4a65c_grow_92f84_59 : decode cJx4a65c_grow_92f84 59 = .ok (.areturn, 1) := by decide +kernel
theorem dJx4a65c_grow_d5877_0 : decode cJx4a65c_grow_d5877 0 = .ok (.aload_n 0, 1) := by decide +kernel
theorem dJx4a65c_grow_d5877_1 : decode cJx4a65c_grow_d5877 1 = .ok (.aload_n 0, 1) := by decide +kernel
theorem dJx4a65c_grow_d5877_2 : decode cJx4a65c_grow_d5877 2 = .ok (.getfield 48, 3) := by decide +kernel
theorem dJx4a65c_grow_d5877_5 : decode cJx4a65c_grow_d5877 5 = .ok (.iconst 1, 1) := by decide +kernel
theorem dJx4a65c_grow_d5877_6 : decode cJx4a65c_grow_d5877 6 = .ok (.iadd, 1) := by decide +kernel
theorem dJx4a65c_grow_d5877_7 : decode cJx4a65c_grow_d5877 7 = .ok (.invokevirtual 69, 3) := by decide +kernel
theorem dJx4a65c_grow_d5877_10 : decode cJx4a65c_grow_d5877 10 = .ok (.areturn, 1) := by decide +kernel
theorem dJx4a65c_size_8abf5_0 : decode cJx4a65c_size_8abf5 0 = .ok (.aload_n 0, 1) := by decide +kernel
theorem dJx4a65c_size_8abf5_1 : decode cJx4a65c_size_8abf5 1 = .ok (.getfield 48, 3) := by decide +kernel
theorem dJx4a65c_size_8abf5_4 : decode cJx4a65c_size_8abf5 4 = .ok (.ireturn, 1) := by decide +kernel
theorem dJx4a65c_elementData_915e3_0 : decode cJx4a65c_elementData_915e3 0 = .ok (.aload_n 0, 1) := by decide +kernel
theorem dJx4a65c_elementData_915e3_1 : decode cJx4a65c_elementData_915e3 1 = .ok (.getfield 9, 3) := by decide +kernel
theorem dJx4a65c_elementData_915e3_4 : decode cJx4a65c_elementData_915e3 4 = .ok (.iload_n 1, 1) := by decide +kernel
theorem dJx4a65c_elementData_915e3_5 : decode cJx4a65c_elementData_915e3 5 = .ok (.aaload, 1) := by decide +kernel
theorem dJx4a65c_elementData_915e3_6 : decode cJx4a65c_elementData_915e3 6 = .ok (.areturn, 1) := by decide +kernel
theorem dJx4a65c_get_915e3_0 : decode cJx4a65c_get_915e3 0 = .ok (.iload_n 1, 1) := by decide +kernel
theorem dJx4a65c_get_915e3_1 : decode cJx4a65c_get_915e3 1 = .ok (.aload_n 0, 1) := by decide +kernel
theorem dJx4a65c_get_915e3_2 : decode cJx4a65c_get_915e3 2 = .ok (.getfield 48, 3) := by decide +kernel
theorem dJx4a65c_get_915e3_5 : decode cJx4a65c_get_915e3 5 = .ok (.invokestatic 118, 3) := by decide +kernel
theorem dJx4a65c_get_915e3_8 : decode cJx4a65c_get_915e3 8 = .ok (.pop, 1) := by decide +kernel
theorem dJx4a65c_get_915e3_9 : decode cJx4a65c_get_915e3 9 = .ok (.aload_n 0, 1) := by decide +kernel
theorem dJx4a65c_get_915e3_10 : decode cJx4a65c_get_915e3 10 = .ok (.iload_n 1, 1) := by decide +kernel
theorem dJx4a65c_get_915e3_11 : decode cJx4a65c_get_915e3 11 = .ok (.invokevirtual 123, 3) := by decide +kernel
theorem dJx4a65c_get_915e3_14 : decode cJx4a65c_get_915e3 14 = .ok (.areturn, 1) := by decide +kernel
theorem dJx4a65c_add_72be8_0 : decode cJx4a65c_add_72be8 0 = .ok (.iload_n 3, 1) := by decide +kernel
theorem dJx4a65c_add_72be8_1 : decode cJx4a65c_add_72be8 1 = .ok (.aload_n 2, 1) := by decide +kernel
theorem dJx4a65c_add_72be8_2 : decode cJx4a65c_add_72be8 2 = .ok (.arraylength, 1) := by decide +kernel
theorem dJx4a65c_add_72be8_3 : decode cJx4a65c_add_72be8 3 = .ok (.if_icmp .ne 8, 3) := by decide +kernel
theorem dJx4a65c_add_72be8_6 : decode cJx4a65c_add_72be8 6 = .ok (.aload_n 0, 1) := by decide +kernel
theorem dJx4a65c_add_72be8_7 : decode cJx4a65c_add_72be8 7 = .ok (.invokevirtual 129, 3) := by decide +kernel
theorem dJx4a65c_add_72be8_10 : decode cJx4a65c_add_72be8 10 = .ok (.astore_n 2, 1) := by decide +kernel
theorem dJx4a65c_add_72be8_11 : decode cJx4a65c_add_72be8 11 = .ok (.aload_n 2, 1) := by decide +kernel
theorem dJx4a65c_add_72be8_12 : decode cJx4a65c_add_72be8 12 = .ok (.iload_n 3, 1) := by decide +kernel
theorem dJx4a65c_add_72be8_13 : decode cJx4a65c_add_72be8 13 = .ok (.aload_n 1, 1) := by decide +kernel
theorem dJx4a65c_add_72be8_14 : decode cJx4a65c_add_72be8 14 = .ok (.aastore, 1) := by decide +kernel
theorem dJx4a65c_add_72be8_15 : decode cJx4a65c_add_72be8 15 = .ok (.aload_n 0, 1) := by decide +kernel
theorem dJx4a65c_add_72be8_16 : decode cJx4a65c_add_72be8 16 = .ok (.iload_n 3, 1) := by decide +kernel
theorem dJx4a65c_add_72be8_17 : decode cJx4a65c_add_72be8 17 = .ok (.iconst 1, 1) := by decide +kernel
theorem dJx4a65c_add_72be8_18 : decode cJx4a65c_add_72be8 18 = .ok (.iadd, 1) := by decide +kernel
theorem dJx4a65c_add_72be8_19 : decode cJx4a65c_add_72be8 19 = .ok (.putfield 48, 3) := by decide +kernel
theorem dJx4a65c_add_72be8_22 : decode cJx4a65c_add_72be8 22 = .ok (.return_, 1) := by decide +kernel
theorem dJx4a65c_add_9ea2d_0 : decode cJx4a65c_add_9ea2d 0 = .ok (.aload_n 0, 1) := by decide +kernel
theorem dJx4a65c_add_9ea2d_1 : decode cJx4a65c_add_9ea2d 1 = .ok (.dup, 1) := by decide +kernel
theorem dJx4a65c_add_9ea2d_2 : decode cJx4a65c_add_9ea2d 2 = .ok (.getfield 63, 3) := by decide +kernel
theorem dJx4a65c_add_9ea2d_5 : decode cJx4a65c_add_9ea2d 5 = .ok (.iconst 1, 1) := by decide +kernel
theorem dJx4a65c_add_9ea2d_6 : decode cJx4a65c_add_9ea2d 6 = .ok (.iadd, 1) := by decide +kernel
theorem dJx4a65c_add_9ea2d_7 : decode cJx4a65c_add_9ea2d 7 = .ok (.putfield 63, 3) := by decide +kernel
theorem dJx4a65c_add_9ea2d_10 : decode cJx4a65c_add_9ea2d 10 = .ok (.aload_n 0, 1) := by decide +kernel
theorem dJx4a65c_add_9ea2d_11 : decode cJx4a65c_add_9ea2d 11 = .ok (.aload_n 1, 1) := by decide +kernel
theorem dJx4a65c_add_9ea2d_12 : decode cJx4a65c_add_9ea2d 12 = .ok (.aload_n 0, 1) := by decide +kernel
theorem dJx4a65c_add_9ea2d_13 : decode cJx4a65c_add_9ea2d 13 = .ok (.getfield 9, 3) := by decide +kernel
theorem dJx4a65c_add_9ea2d_16 : decode cJx4a65c_add_9ea2d 16 = .ok (.aload_n 0, 1) := by decide +kernel
theorem dJx4a65c_add_9ea2d_17 : decode cJx4a65c_add_9ea2d 17 = .ok (.getfield 48, 3) := by decide +kernel
theorem dJx4a65c_add_9ea2d_20 : decode cJx4a65c_add_9ea2d 20 = .ok (.invokevirtual 131, 3) := by decide +kernel
theorem dJx4a65c_add_9ea2d_23 : decode cJx4a65c_add_9ea2d 23 = .ok (.iconst 1, 1) := by decide +kernel
theorem dJx4a65c_add_9ea2d_24 : decode cJx4a65c_add_9ea2d 24 = .ok (.ireturn, 1) := by decide +kernel
theorem dJ7_fill_53178_0 : decode cJ7_fill_53178 0 = .ok (.iconst 0, 1) := by decide +kernel
theorem dJ7_fill_53178_1 : decode cJ7_fill_53178 1 = .ok (.istore_n 2, 1) := by decide +kernel
theorem dJ7_fill_53178_2 : decode cJ7_fill_53178 2 = .ok (.aload_n 0, 1) := by decide +kernel
theorem dJ7_fill_53178_3 : decode cJ7_fill_53178 3 = .ok (.arraylength, 1) := by decide +kernel
theorem dJ7_fill_53178_4 : decode cJ7_fill_53178 4 = .ok (.istore_n 3, 1) := by decide +kernel
theorem dJ7_fill_53178_5 : decode cJ7_fill_53178 5 = .ok (.iload_n 2, 1) := by decide +kernel
theorem dJ7_fill_53178_6 : decode cJ7_fill_53178 6 = .ok (.iload_n 3, 1) := by decide +kernel
theorem dJ7_fill_53178_7 : decode cJ7_fill_53178 7 = .ok (.if_icmp .ge 13, 3) := by decide +kernel
theorem dJ7_fill_53178_10 : decode cJ7_fill_53178 10 = .ok (.aload_n 0, 1) := by decide +kernel
theorem dJ7_fill_53178_11 : decode cJ7_fill_53178 11 = .ok (.iload_n 2, 1) := by decide +kernel
theorem dJ7_fill_53178_12 : decode cJ7_fill_53178 12 = .ok (.iload_n 1, 1) := by decide +kernel
theorem dJ7_fill_53178_13 : decode cJ7_fill_53178 13 = .ok (.iastore, 1) := by decide +kernel
theorem dJ7_fill_53178_14 : decode cJ7_fill_53178 14 = .ok (.iinc 2 1, 3) := by decide +kernel
theorem dJ7_fill_53178_17 : decode cJ7_fill_53178 17 = .ok (.goto (-12), 3) := by decide +kernel
theorem dJ7_fill_53178_20 : decode cJ7_fill_53178 20 = .ok (.return_, 1) := by decide +kernel
theorem dJ7_copyOf_1904c_0 : decode cJ7_copyOf_1904c 0 = .ok (.aload_n 0, 1) := by decide +kernel
theorem dJ7_copyOf_1904c_1 : decode cJ7_copyOf_1904c 1 = .ok (.iload_n 1, 1) := by decide +kernel
theorem dJ7_copyOf_1904c_2 : decode cJ7_copyOf_1904c 2 = .ok (.aload_n 0, 1) := by decide +kernel
theorem dJ7_copyOf_1904c_3 : decode cJ7_copyOf_1904c 3 = .ok (.invokevirtual 86, 3) := by decide +kernel
theorem dJ7_copyOf_1904c_6 : decode cJ7_copyOf_1904c 6 = .ok (.invokestatic 300, 3) := by decide +kernel
theorem dJ7_copyOf_1904c_9 : decode cJ7_copyOf_1904c 9 = .ok (.areturn, 1) := by decide +kernel
theorem dJ7_copyOf_6403c_0 : decode cJ7_copyOf_6403c 0 = .ok (.aload_n 2, 1) := by decide +kernel
theorem dJ7_copyOf_6403c_1 : decode cJ7_copyOf_6403c 1 = .ok (.ldc 110, 2) := by decide +kernel
theorem dJ7_copyOf_6403c_3 : decode cJ7_copyOf_6403c 3 = .ok (.if_acmp .ne 10, 3) := by decide +kernel
theorem dJ7_copyOf_6403c_6 : decode cJ7_copyOf_6403c 6 = .ok (.iload_n 1, 1) := by decide +kernel
theorem dJ7_copyOf_6403c_7 : decode cJ7_copyOf_6403c 7 = .ok (.anewarray 2, 3) := by decide +kernel
theorem dJ7_copyOf_6403c_10 : decode cJ7_copyOf_6403c 10 = .ok (.goto 14, 3) := by decide +kernel
theorem dJ7_copyOf_6403c_13 : decode cJ7_copyOf_6403c 13 = .ok (.aload_n 2, 1) := by decide +kernel
theorem dJ7_copyOf_6403c_14 : decode cJ7_copyOf_6403c 14 = .ok (.invokevirtual 90, 3) := by decide +kernel
theorem dJ7_copyOf_6403c_17 : decode cJ7_copyOf_6403c 17 = .ok (.iload_n 1, 1) := by decide +kernel
theorem dJ7_copyOf_6403c_18 : decode cJ7_copyOf_6403c 18 = .ok (.invokestatic 95, 3) := by decide +kernel
theorem dJ7_copyOf_6403c_21 : decode cJ7_copyOf_6403c 21 = .ok (.checkcast 110, 3) := by decide +kernel
theorem dJ7_copyOf_6403c_24 : decode cJ7_copyOf_6403c 24 = .ok (.astore_n 3, 1) := by decide +kernel
theorem dJ7_copyOf_6403c_25 : decode cJ7_copyOf_6403c 25 = .ok (.aload_n 0, 1) := by decide +kernel
theorem dJ7_copyOf_6403c_26 : decode cJ7_copyOf_6403c 26 = .ok (.iconst 0, 1) := by decide +kernel
theorem dJ7_copyOf_6403c_27 : decode cJ7_copyOf_6403c 27 = .ok (.aload_n 3, 1) := by decide +kernel
theorem dJ7_copyOf_6403c_28 : decode cJ7_copyOf_6403c 28 = .ok (.iconst 0, 1) := by decide +kernel
theorem dJ7_copyOf_6403c_29 : decode cJ7_copyOf_6403c 29 = .ok (.aload_n 0, 1) := by decide +kernel
theorem dJ7_copyOf_6403c_30 : decode cJ7_copyOf_6403c 30 = .ok (.arraylength, 1) := by decide +kernel
theorem dJ7_copyOf_6403c_31 : decode cJ7_copyOf_6403c 31 = .ok (.iload_n 1, 1) := by decide +kernel
theorem dJ7_copyOf_6403c_32 : decode cJ7_copyOf_6403c 32 = .ok (.invokestatic 304, 3) := by decide +kernel
theorem dJ7_copyOf_6403c_35 : decode cJ7_copyOf_6403c 35 = .ok (.invokestatic 150, 3) := by decide +kernel
theorem dJ7_copyOf_6403c_38 : decode cJ7_copyOf_6403c 38 = .ok (.aload_n 3, 1) := by decide +kernel
theorem dJ7_copyOf_6403c_39 : decode cJ7_copyOf_6403c 39 = .ok (.areturn, 1) := by decide +kernel
theorem dJ15_checkIndex_7cf53_0 : decode cJ15_checkIndex_7cf53 0 = .ok (.iload_n 0, 1) := by decide +kernel
theorem dJ15_checkIndex_7cf53_1 : decode cJ15_checkIndex_7cf53 1 = .ok (.iload_n 1, 1) := by decide +kernel
theorem dJ15_checkIndex_7cf53_2 : decode cJ15_checkIndex_7cf53 2 = .ok (.aconst_null, 1) := by decide +kernel
theorem dJ15_checkIndex_7cf53_3 : decode cJ15_checkIndex_7cf53 3 = .ok (.invokestatic 105, 3) := by decide +kernel
theorem dJ15_checkIndex_7cf53_6 : decode cJ15_checkIndex_7cf53 6 = .ok (.ireturn, 1) := by decide +kernel
theorem dJ8_newLength_cabcc_0 : decode cJ8_newLength_cabcc 0 = .ok (.iload_n 0, 1) := by decide +kernel
theorem dJ8_newLength_cabcc_1 : decode cJ8_newLength_cabcc 1 = .ok (.iload_n 1, 1) := by decide +kernel
theorem dJ8_newLength_cabcc_2 : decode cJ8_newLength_cabcc 2 = .ok (.iload_n 2, 1) := by decide +kernel
theorem dJ8_newLength_cabcc_3 : decode cJ8_newLength_cabcc 3 = .ok (.invokestatic 194, 3) := by decide +kernel
theorem dJ8_newLength_cabcc_6 : decode cJ8_newLength_cabcc 6 = .ok (.iadd, 1) := by decide +kernel
theorem dJ8_newLength_cabcc_7 : decode cJ8_newLength_cabcc 7 = .ok (.istore_n 3, 1) := by decide +kernel
theorem dJ8_newLength_cabcc_8 : decode cJ8_newLength_cabcc 8 = .ok (.iconst 0, 1) := by decide +kernel
theorem dJ8_newLength_cabcc_9 : decode cJ8_newLength_cabcc 9 = .ok (.iload_n 3, 1) := by decide +kernel
theorem dJ8_newLength_cabcc_10 : decode cJ8_newLength_cabcc 10 = .ok (.if_icmp .ge 11, 3) := by decide +kernel
theorem dJ8_newLength_cabcc_13 : decode cJ8_newLength_cabcc 13 = .ok (.iload_n 3, 1) := by decide +kernel
theorem dJ8_newLength_cabcc_14 : decode cJ8_newLength_cabcc 14 = .ok (.ldc 200, 2) := by decide +kernel
theorem dJ8_newLength_cabcc_16 : decode cJ8_newLength_cabcc 16 = .ok (.if_icmp .gt 5, 3) := by decide +kernel
theorem dJ8_newLength_cabcc_19 : decode cJ8_newLength_cabcc 19 = .ok (.iload_n 3, 1) := by decide +kernel
theorem dJ8_newLength_cabcc_20 : decode cJ8_newLength_cabcc 20 = .ok (.ireturn, 1) := by decide +kernel
theorem dJ8_newLength_cabcc_21 : decode cJ8_newLength_cabcc 21 = .ok (.iload_n 0, 1) := by decide +kernel
theorem dJ8_newLength_cabcc_22 : decode cJ8_newLength_cabcc 22 = .ok (.iload_n 1, 1) := by decide +kernel
theorem dJ8_newLength_cabcc_23 : decode cJ8_newLength_cabcc 23 = .ok (.invokestatic 201, 3) := by decide +kernel
theorem dJ8_newLength_cabcc_26 : decode cJ8_newLength_cabcc 26 = .ok (.ireturn, 1) := by decide +kernel
theorem dJ8_hugeLength_7cf53_0 : decode cJ8_hugeLength_7cf53 0 = .ok (.iload_n 0, 1) := by decide +kernel
theorem dJ8_hugeLength_7cf53_1 : decode cJ8_hugeLength_7cf53 1 = .ok (.iload_n 1, 1) := by decide +kernel
theorem dJ8_hugeLength_7cf53_2 : decode cJ8_hugeLength_7cf53 2 = .ok (.iadd, 1) := by decide +kernel
theorem dJ8_hugeLength_7cf53_3 : decode cJ8_hugeLength_7cf53 3 = .ok (.istore_n 2, 1) := by decide +kernel
theorem dJ8_hugeLength_7cf53_4 : decode cJ8_hugeLength_7cf53 4 = .ok (.iload_n 2, 1) := by decide +kernel
theorem dJ8_hugeLength_7cf53_5 : decode cJ8_hugeLength_7cf53 5 = .ok (.ifCond .ge 44, 3) := by decide +kernel
theorem dJ8_hugeLength_7cf53_8 : decode cJ8_hugeLength_7cf53 8 = .ok (.new 204, 3) := by decide +kernel
theorem dJ8_hugeLength_7cf53_11 : decode cJ8_hugeLength_7cf53 11 = .ok (.dup, 1) := by decide +kernel
theorem dJ8_hugeLength_7cf53_12 : decode cJ8_hugeLength_7cf53 12 = .ok (.new 89, 3) := by decide +kernel
theorem dJ8_hugeLength_7cf53_15 : decode cJ8_hugeLength_7cf53 15 = .ok (.dup, 1) := by decide +kernel
theorem dJ8_hugeLength_7cf53_16 : decode cJ8_hugeLength_7cf53 16 = .ok (.invokespecial 91, 3) := by decide +kernel
theorem dJ8_hugeLength_7cf53_19 : decode cJ8_hugeLength_7cf53 19 = .ok (.ldc 206, 2) := by decide +kernel
theorem dJ8_hugeLength_7cf53_21 : decode cJ8_hugeLength_7cf53 21 = .ok (.invokevirtual 94, 3) := by decide +kernel
theorem dJ8_hugeLength_7cf53_24 : decode cJ8_hugeLength_7cf53 24 = .ok (.iload_n 0, 1) := by decide +kernel
theorem dJ8_hugeLength_7cf53_25 : decode cJ8_hugeLength_7cf53 25 = .ok (.invokevirtual 98, 3) := by decide +kernel
theorem dJ8_hugeLength_7cf53_28 : decode cJ8_hugeLength_7cf53 28 = .ok (.ldc 208, 2) := by decide +kernel
theorem dJ8_hugeLength_7cf53_30 : decode cJ8_hugeLength_7cf53 30 = .ok (.invokevirtual 94, 3) := by decide +kernel
theorem dJ8_hugeLength_7cf53_33 : decode cJ8_hugeLength_7cf53 33 = .ok (.iload_n 1, 1) := by decide +kernel
theorem dJ8_hugeLength_7cf53_34 : decode cJ8_hugeLength_7cf53 34 = .ok (.invokevirtual 98, 3) := by decide +kernel
theorem dJ8_hugeLength_7cf53_37 : decode cJ8_hugeLength_7cf53 37 = .ok (.ldc 210, 2) := by decide +kernel
theorem dJ8_hugeLength_7cf53_39 : decode cJ8_hugeLength_7cf53 39 = .ok (.invokevirtual 94, 3) := by decide +kernel
theorem dJ8_hugeLength_7cf53_42 : decode cJ8_hugeLength_7cf53 42 = .ok (.invokevirtual 101, 3) := by decide +kernel
theorem dJ8_hugeLength_7cf53_45 : decode cJ8_hugeLength_7cf53 45 = .ok (.invokespecial 212, 3) := by decide +kernel
theorem dJ8_hugeLength_7cf53_48 : decode cJ8_hugeLength_7cf53 48 = .ok (.athrow, 1) := by decide +kernel
theorem dJ8_hugeLength_7cf53_49 : decode cJ8_hugeLength_7cf53 49 = .ok (.iload_n 2, 1) := by decide +kernel
theorem dJ8_hugeLength_7cf53_50 : decode cJ8_hugeLength_7cf53 50 = .ok (.ldc 200, 2) := by decide +kernel
theorem dJ8_hugeLength_7cf53_52 : decode cJ8_hugeLength_7cf53 52 = .ok (.if_icmp .gt 6, 3) := by decide +kernel
theorem dJ8_hugeLength_7cf53_55 : decode cJ8_hugeLength_7cf53 55 = .ok (.ldc 200, 2) := by decide +kernel
theorem dJ8_hugeLength_7cf53_57 : decode cJ8_hugeLength_7cf53 57 = .ok (.ireturn, 1) := by decide +kernel
theorem dJ8_hugeLength_7cf53_58 : decode cJ8_hugeLength_7cf53 58 = .ok (.iload_n 2, 1) := by decide +kernel
theorem dJ8_hugeLength_7cf53_59 : decode cJ8_hugeLength_7cf53 59 = .ok (.ireturn, 1) := by decide +kernel
theorem dJ3_checkIndex_8e157_0 : decode cJ3_checkIndex_8e157 0 = .ok (.iload_n 0, 1) := by decide +kernel
theorem dJ3_checkIndex_8e157_1 : decode cJ3_checkIndex_8e157 1 = .ok (.ifCond .lt 8, 3) := by decide +kernel
theorem dJ3_checkIndex_8e157_4 : decode cJ3_checkIndex_8e157 4 = .ok (.iload_n 0, 1) := by decide +kernel
theorem dJ3_checkIndex_8e157_5 : decode cJ3_checkIndex_8e157 5 = .ok (.iload_n 1, 1) := by decide +kernel
theorem dJ3_checkIndex_8e157_6 : decode cJ3_checkIndex_8e157 6 = .ok (.if_icmp .lt 10, 3) := by decide +kernel
theorem dJ3_checkIndex_8e157_9 : decode cJ3_checkIndex_8e157 9 = .ok (.aload_n 2, 1) := by decide +kernel
theorem dJ3_checkIndex_8e157_10 : decode cJ3_checkIndex_8e157 10 = .ok (.iload_n 0, 1) := by decide +kernel
theorem dJ3_checkIndex_8e157_11 : decode cJ3_checkIndex_8e157 11 = .ok (.iload_n 1, 1) := by decide +kernel
theorem dJ3_checkIndex_8e157_12 : decode cJ3_checkIndex_8e157 12 = .ok (.invokestatic 95, 3) := by decide +kernel
theorem dJ3_checkIndex_8e157_15 : decode cJ3_checkIndex_8e157 15 = .ok (.athrow, 1) := by decide +kernel
theorem dJ3_checkIndex_8e157_16 : decode cJ3_checkIndex_8e157 16 = .ok (.iload_n 0, 1) := by decide +kernel
theorem dJ3_checkIndex_8e157_17 : decode cJ3_checkIndex_8e157 17 = .ok (.ireturn, 1) := by decide +kernel
theorem dL_holiday_0 : decode cL_holiday 0 = .ok (.aload_n 2, 1) := by decide +kernel
theorem dL_holiday_1 : decode cL_holiday 1 = .ok (.iconst 0, 1) := by decide +kernel
theorem dL_holiday_2 : decode cL_holiday 2 = .ok (.aload_n 0, 1) := by decide +kernel
theorem dL_holiday_3 : decode cL_holiday 3 = .ok (.iload_n 1, 1) := by decide +kernel
theorem dL_holiday_4 : decode cL_holiday 4 = .ok (.invokevirtual 7, 3) := by decide +kernel
theorem dL_holiday_7 : decode cL_holiday 7 = .ok (.ifCond .eq 7, 3) := by decide +kernel
theorem dL_holiday_10 : decode cL_holiday 10 = .ok (.lconst 1, 1) := by decide +kernel
theorem dL_holiday_11 : decode cL_holiday 11 = .ok (.goto 4, 3) := by decide +kernel
theorem dL_holiday_14 : decode cL_holiday 14 = .ok (.lconst 0, 1) := by decide +kernel
theorem dL_holiday_15 : decode cL_holiday 15 = .ok (.lastore, 1) := by decide +kernel
theorem dL_holiday_16 : decode cL_holiday 16 = .ok (.goto 6, 3) := by decide +kernel
theorem dL_holiday_19 : decode cL_holiday 19 = .ok (.astore_n 3, 1) := by decide +kernel
theorem dL_holiday_20 : decode cL_holiday 20 = .ok (.iconst 1, 1) := by decide +kernel
theorem dL_holiday_21 : decode cL_holiday 21 = .ok (.ireturn, 1) := by decide +kernel
theorem dL_holiday_22 : decode cL_holiday 22 = .ok (.iconst 0, 1) := by decide +kernel
theorem dL_holiday_23 : decode cL_holiday 23 = .ok (.ireturn, 1) := by decide +kernel
theorem dL_isWorking_0 : decode cL_isWorking 0 = .ok (.aload_n 2, 1) := by decide +kernel
theorem dL_isWorking_1 : decode cL_isWorking 1 = .ok (.iconst 0, 1) := by decide +kernel
theorem dL_isWorking_2 : decode cL_isWorking 2 = .ok (.aload_n 0, 1) := by decide +kernel
theorem dL_isWorking_3 : decode cL_isWorking 3 = .ok (.iload_n 1, 1) := by decide +kernel
theorem dL_isWorking_4 : decode cL_isWorking 4 = .ok (.invokevirtual 15, 3) := by decide +kernel
theorem dL_isWorking_7 : decode cL_isWorking 7 = .ok (.ifCond .eq 7, 3) := by decide +kernel
theorem dL_isWorking_10 : decode cL_isWorking 10 = .ok (.lconst 1, 1) := by decide +kernel
theorem dL_isWorking_11 : decode cL_isWorking 11 = .ok (.goto 4, 3) := by decide +kernel
theorem dL_isWorking_14 : decode cL_isWorking 14 = .ok (.lconst 0, 1) := by decide +kernel
theorem dL_isWorking_15 : decode cL_isWorking 15 = .ok (.lastore, 1) := by decide +kernel
theorem dL_isWorking_16 : decode cL_isWorking 16 = .ok (.goto 6, 3) := by decide +kernel
theorem dL_isWorking_19 : decode cL_isWorking 19 = .ok (.astore_n 3, 1) := by decide +kernel
theorem dL_isWorking_20 : decode cL_isWorking 20 = .ok (.iconst 1, 1) := by decide +kernel
theorem dL_isWorking_21 : decode cL_isWorking 21 = .ok (.ireturn, 1) := by decide +kernel
theorem dL_isWorking_22 : decode cL_isWorking 22 = .ok (.iconst 0, 1) := by decide +kernel
theorem dL_isWorking_23 : decode cL_isWorking 23 = .ok (.ireturn, 1) := by decide +kernel
theorem dL_workingDays_0 : decode cL_workingDays 0 = .ok (.aload_n 3, 1) := by decide +kernel
theorem dL_workingDays_1 : decode cL_workingDays 1 = .ok (.iconst 0, 1) := by decide +kernel
theorem dL_workingDays_2 : decode cL_workingDays 2 = .ok (.aload_n 0, 1) := by decide +kernel
theorem dL_workingDays_3 : decode cL_workingDays 3 = .ok (.iload_n 1, 1) := by decide +kernel
theorem dL_workingDays_4 : decode cL_workingDays 4 = .ok (.iload_n 2, 1) := by decide +kernel
theorem dL_workingDays_5 : decode cL_workingDays 5 = .ok (.invokevirtual 18, 3) := by decide +kernel
theorem dL_workingDays_8 : decode cL_workingDays 8 = .ok (.i2l, 1) := by decide +kernel
theorem dL_workingDays_9 : decode cL_workingDays 9 = .ok (.lastore, 1) := by decide +kernel
theorem dL_workingDays_10 : decode cL_workingDays 10 = .ok (.goto 11, 3) := by decide +kernel
theorem dL_workingDays_13 : decode cL_workingDays 13 = .ok (.astore 4, 2) := by decide +kernel
theorem dL_workingDays_15 : decode cL_workingDays 15 = .ok (.iconst 1, 1) := by decide +kernel
theorem dL_workingDays_16 : decode cL_workingDays 16 = .ok (.ireturn, 1) := by decide +kernel
theorem dL_workingDays_17 : decode cL_workingDays 17 = .ok (.astore 4, 2) := by decide +kernel
theorem dL_workingDays_19 : decode cL_workingDays 19 = .ok (.iconst 2, 1) := by decide +kernel
theorem dL_workingDays_20 : decode cL_workingDays 20 = .ok (.ireturn, 1) := by decide +kernel
theorem dL_workingDays_21 : decode cL_workingDays 21 = .ok (.iconst 0, 1) := by decide +kernel
theorem dL_workingDays_22 : decode cL_workingDays 22 = .ok (.ireturn, 1) := by decide +kernel
theorem dL_pass_0 : decode cL_pass 0 = .ok (.aload_n 2, 1) := by decide +kernel
theorem dL_pass_1 : decode cL_pass 1 = .ok (.iconst 0, 1) := by decide +kernel
theorem dL_pass_2 : decode cL_pass 2 = .ok (.aload_n 0, 1) := by decide +kernel
theorem dL_pass_3 : decode cL_pass 3 = .ok (.iload_n 1, 1) := by decide +kernel
theorem dL_pass_4 : decode cL_pass 4 = .ok (.invokevirtual 24, 3) := by decide +kernel
theorem dL_pass_7 : decode cL_pass 7 = .ok (.i2l, 1) := by decide +kernel
theorem dL_pass_8 : decode cL_pass 8 = .ok (.lastore, 1) := by decide +kernel
theorem dL_pass_9 : decode cL_pass 9 = .ok (.goto 9, 3) := by decide +kernel
theorem dL_pass_12 : decode cL_pass 12 = .ok (.astore_n 3, 1) := by decide +kernel
theorem dL_pass_13 : decode cL_pass 13 = .ok (.iconst 1, 1) := by decide +kernel
theorem dL_pass_14 : decode cL_pass 14 = .ok (.ireturn, 1) := by decide +kernel
theorem dL_pass_15 : decode cL_pass 15 = .ok (.astore_n 3, 1) := by decide +kernel
theorem dL_pass_16 : decode cL_pass 16 = .ok (.iconst 2, 1) := by decide +kernel
theorem dL_pass_17 : decode cL_pass 17 = .ok (.ireturn, 1) := by decide +kernel
theorem dL_pass_18 : decode cL_pass 18 = .ok (.iconst 0, 1) := by decide +kernel
theorem dL_pass_19 : decode cL_pass 19 = .ok (.ireturn, 1) := by decide +kernel
theorem dL_addRule_0 : decode cL_addRule 0 = .ok (.aload 7, 2) := by decide +kernel
theorem dL_addRule_2 : decode cL_addRule 2 = .ok (.iconst 0, 1) := by decide +kernel
theorem dL_addRule_3 : decode cL_addRule 3 = .ok (.aload_n 0, 1) := by decide +kernel
theorem dL_addRule_4 : decode cL_addRule 4 = .ok (.iload_n 1, 1) := by decide +kernel
theorem dL_addRule_5 : decode cL_addRule 5 = .ok (.iload_n 2, 1) := by decide +kernel
theorem dL_addRule_6 : decode cL_addRule 6 = .ok (.iload_n 3, 1) := by decide +kernel
theorem dL_addRule_7 : decode cL_addRule 7 = .ok (.iload 4, 2) := by decide +kernel
theorem dL_addRule_9 : decode cL_addRule 9 = .ok (.iload 5, 2) := by decide +kernel
theorem dL_addRule_11 : decode cL_addRule 11 = .ok (.iload 6, 2) := by decide +kernel
theorem dL_addRule_13 : decode cL_addRule 13 = .ok (.invokevirtual 30, 3) := by decide +kernel
theorem dL_addRule_16 : decode cL_addRule 16 = .ok (.i2l, 1) := by decide +kernel
theorem dL_addRule_17 : decode cL_addRule 17 = .ok (.lastore, 1) := by decide +kernel
theorem dL_addRule_18 : decode cL_addRule 18 = .ok (.goto 15, 3) := by decide +kernel
theorem dL_addRule_21 : decode cL_addRule 21 = .ok (.astore 8, 2) := by decide +kernel
theorem dL_addRule_23 : decode cL_addRule 23 = .ok (.iconst 1, 1) := by decide +kernel
theorem dL_addRule_24 : decode cL_addRule 24 = .ok (.ireturn, 1) := by decide +kernel
theorem dL_addRule_25 : decode cL_addRule 25 = .ok (.astore 8, 2) := by decide +kernel
theorem dL_addRule_27 : decode cL_addRule 27 = .ok (.iconst 2, 1) := by decide +kernel
theorem dL_addRule_28 : decode cL_addRule 28 = .ok (.ireturn, 1) := by decide +kernel
theorem dL_addRule_29 : decode cL_addRule 29 = .ok (.astore 8, 2) := by decide +kernel
theorem dL_addRule_31 : decode cL_addRule 31 = .ok (.iconst 3, 1) := by decide +kernel
theorem dL_addRule_32 : decode cL_addRule 32 = .ok (.ireturn, 1) := by decide +kernel
theorem dL_addRule_33 : decode cL_addRule 33 = .ok (.iconst 0, 1) := by decide +kernel
theorem dL_addRule_34 : decode cL_addRule 34 = .ok (.ireturn, 1) := by decide +kernel
theorem dL_setShift_0 : decode cL_setShift 0 = .ok (.aload_n 3, 1) := by decide +kernel
theorem dL_setShift_1 : decode cL_setShift 1 = .ok (.iconst 0, 1) := by decide +kernel
theorem dL_setShift_2 : decode cL_setShift 2 = .ok (.aload_n 0, 1) := by decide +kernel
theorem dL_setShift_3 : decode cL_setShift 3 = .ok (.iload_n 1, 1) := by decide +kernel
theorem dL_setShift_4 : decode cL_setShift 4 = .ok (.iload_n 2, 1) := by decide +kernel
theorem dL_setShift_5 : decode cL_setShift 5 = .ok (.invokevirtual 34, 3) := by decide +kernel
theorem dL_setShift_8 : decode cL_setShift 8 = .ok (.i2l, 1) := by decide +kernel
theorem dL_setShift_9 : decode cL_setShift 9 = .ok (.lastore, 1) := by decide +kernel
theorem dL_setShift_10 : decode cL_setShift 10 = .ok (.goto 11, 3) := by decide +kernel
theorem dL_setShift_13 : decode cL_setShift 13 = .ok (.astore 4, 2) := by decide +kernel
theorem dL_setShift_15 : decode cL_setShift 15 = .ok (.iconst 1, 1) := by decide +kernel
theorem dL_setShift_16 : decode cL_setShift 16 = .ok (.ireturn, 1) := by decide +kernel
theorem dL_setShift_17 : decode cL_setShift 17 = .ok (.astore 4, 2) := by decide +kernel
theorem dL_setShift_19 : decode cL_setShift 19 = .ok (.iconst 2, 1) := by decide +kernel
theorem dL_setShift_20 : decode cL_setShift 20 = .ok (.ireturn, 1) := by decide +kernel
theorem dL_setShift_21 : decode cL_setShift 21 = .ok (.iconst 0, 1) := by decide +kernel
theorem dL_setShift_22 : decode cL_setShift 22 = .ok (.ireturn, 1) := by decide +kernel
theorem dL_require_0 : decode cL_require 0 = .ok (.aload_n 3, 1) := by decide +kernel
theorem dL_require_1 : decode cL_require 1 = .ok (.iconst 0, 1) := by decide +kernel
theorem dL_require_2 : decode cL_require 2 = .ok (.aload_n 0, 1) := by decide +kernel
theorem dL_require_3 : decode cL_require 3 = .ok (.iload_n 1, 1) := by decide +kernel
theorem dL_require_4 : decode cL_require 4 = .ok (.iload_n 2, 1) := by decide +kernel
theorem dL_require_5 : decode cL_require 5 = .ok (.invokevirtual 37, 3) := by decide +kernel
theorem dL_require_8 : decode cL_require 8 = .ok (.ifCond .eq 7, 3) := by decide +kernel
theorem dL_require_11 : decode cL_require 11 = .ok (.lconst 1, 1) := by decide +kernel
theorem dL_require_12 : decode cL_require 12 = .ok (.goto 4, 3) := by decide +kernel
theorem dL_require_15 : decode cL_require 15 = .ok (.lconst 0, 1) := by decide +kernel
theorem dL_require_16 : decode cL_require 16 = .ok (.lastore, 1) := by decide +kernel
theorem dL_require_17 : decode cL_require 17 = .ok (.goto 11, 3) := by decide +kernel
theorem dL_require_20 : decode cL_require 20 = .ok (.astore 4, 2) := by decide +kernel
theorem dL_require_22 : decode cL_require 22 = .ok (.iconst 1, 1) := by decide +kernel
theorem dL_require_23 : decode cL_require 23 = .ok (.ireturn, 1) := by decide +kernel
theorem dL_require_24 : decode cL_require 24 = .ok (.astore 4, 2) := by decide +kernel
theorem dL_require_26 : decode cL_require 26 = .ok (.iconst 2, 1) := by decide +kernel
theorem dL_require_27 : decode cL_require 27 = .ok (.ireturn, 1) := by decide +kernel
theorem dL_require_28 : decode cL_require 28 = .ok (.iconst 0, 1) := by decide +kernel
theorem dL_require_29 : decode cL_require 29 = .ok (.ireturn, 1) := by decide +kernel
theorem dL_dueDay_0 : decode cL_dueDay 0 = .ok (.aload_n 3, 1) := by decide +kernel
theorem dL_dueDay_1 : decode cL_dueDay 1 = .ok (.iconst 0, 1) := by decide +kernel
theorem dL_dueDay_2 : decode cL_dueDay 2 = .ok (.aload_n 0, 1) := by decide +kernel
theorem dL_dueDay_3 : decode cL_dueDay 3 = .ok (.iload_n 1, 1) := by decide +kernel
theorem dL_dueDay_4 : decode cL_dueDay 4 = .ok (.iload_n 2, 1) := by decide +kernel
theorem dL_dueDay_5 : decode cL_dueDay 5 = .ok (.invokevirtual 41, 3) := by decide +kernel
theorem dL_dueDay_8 : decode cL_dueDay 8 = .ok (.i2l, 1) := by decide +kernel
theorem dL_dueDay_9 : decode cL_dueDay 9 = .ok (.lastore, 1) := by decide +kernel
theorem dL_dueDay_10 : decode cL_dueDay 10 = .ok (.goto 7, 3) := by decide +kernel
theorem dL_dueDay_13 : decode cL_dueDay 13 = .ok (.astore 4, 2) := by decide +kernel
theorem dL_dueDay_15 : decode cL_dueDay 15 = .ok (.iconst 1, 1) := by decide +kernel
theorem dL_dueDay_16 : decode cL_dueDay 16 = .ok (.ireturn, 1) := by decide +kernel
theorem dL_dueDay_17 : decode cL_dueDay 17 = .ok (.iconst 0, 1) := by decide +kernel
theorem dL_dueDay_18 : decode cL_dueDay 18 = .ok (.ireturn, 1) := by decide +kernel
theorem dL_duties_0 : decode cL_duties 0 = .ok (.aload_n 2, 1) := by decide +kernel
theorem dL_duties_1 : decode cL_duties 1 = .ok (.iconst 0, 1) := by decide +kernel
theorem dL_duties_2 : decode cL_duties 2 = .ok (.aload_n 0, 1) := by decide +kernel
theorem dL_duties_3 : decode cL_duties 3 = .ok (.iload_n 1, 1) := by decide +kernel
theorem dL_duties_4 : decode cL_duties 4 = .ok (.invokevirtual 44, 3) := by decide +kernel
theorem dL_duties_7 : decode cL_duties 7 = .ok (.i2l, 1) := by decide +kernel
theorem dL_duties_8 : decode cL_duties 8 = .ok (.lastore, 1) := by decide +kernel
theorem dL_duties_9 : decode cL_duties 9 = .ok (.goto 6, 3) := by decide +kernel
theorem dL_duties_12 : decode cL_duties 12 = .ok (.astore_n 3, 1) := by decide +kernel
theorem dL_duties_13 : decode cL_duties 13 = .ok (.iconst 1, 1) := by decide +kernel
theorem dL_duties_14 : decode cL_duties 14 = .ok (.ireturn, 1) := by decide +kernel
theorem dL_duties_15 : decode cL_duties 15 = .ok (.iconst 0, 1) := by decide +kernel
theorem dL_duties_16 : decode cL_duties 16 = .ok (.ireturn, 1) := by decide +kernel
theorem dL_nextDue_0 : decode cL_nextDue 0 = .ok (.aload_n 3, 1) := by decide +kernel
theorem dL_nextDue_1 : decode cL_nextDue 1 = .ok (.iconst 0, 1) := by decide +kernel
theorem dL_nextDue_2 : decode cL_nextDue 2 = .ok (.aload_n 0, 1) := by decide +kernel
theorem dL_nextDue_3 : decode cL_nextDue 3 = .ok (.iload_n 1, 1) := by decide +kernel
theorem dL_nextDue_4 : decode cL_nextDue 4 = .ok (.iload_n 2, 1) := by decide +kernel
theorem dL_nextDue_5 : decode cL_nextDue 5 = .ok (.invokevirtual 47, 3) := by decide +kernel
theorem dL_nextDue_8 : decode cL_nextDue 8 = .ok (.i2l, 1) := by decide +kernel
theorem dL_nextDue_9 : decode cL_nextDue 9 = .ok (.lastore, 1) := by decide +kernel
theorem dL_nextDue_10 : decode cL_nextDue 10 = .ok (.goto 7, 3) := by decide +kernel
theorem dL_nextDue_13 : decode cL_nextDue 13 = .ok (.astore 4, 2) := by decide +kernel
theorem dL_nextDue_15 : decode cL_nextDue 15 = .ok (.iconst 1, 1) := by decide +kernel
theorem dL_nextDue_16 : decode cL_nextDue 16 = .ok (.ireturn, 1) := by decide +kernel
theorem dL_nextDue_17 : decode cL_nextDue 17 = .ok (.iconst 0, 1) := by decide +kernel
theorem dL_nextDue_18 : decode cL_nextDue 18 = .ok (.ireturn, 1) := by decide +kernel
theorem dL_nextDueByWalking_0 : decode cL_nextDueByWalking 0 = .ok (.aload_n 3, 1) := by decide +kernel
theorem dL_nextDueByWalking_1 : decode cL_nextDueByWalking 1 = .ok (.iconst 0, 1) := by decide +kernel
theorem dL_nextDueByWalking_2 : decode cL_nextDueByWalking 2 = .ok (.aload_n 0, 1) := by decide +kernel
theorem dL_nextDueByWalking_3 : decode cL_nextDueByWalking 3 = .ok (.iload_n 1, 1) := by decide +kernel
theorem dL_nextDueByWalking_4 : decode cL_nextDueByWalking 4 = .ok (.iload_n 2, 1) := by decide +kernel
theorem dL_nextDueByWalking_5 : decode cL_nextDueByWalking 5 = .ok (.invokevirtual 50, 3) := by decide +kernel
theorem dL_nextDueByWalking_8 : decode cL_nextDueByWalking 8 = .ok (.i2l, 1) := by decide +kernel
theorem dL_nextDueByWalking_9 : decode cL_nextDueByWalking 9 = .ok (.lastore, 1) := by decide +kernel
theorem dL_nextDueByWalking_10 : decode cL_nextDueByWalking 10 = .ok (.goto 7, 3) := by decide +kernel
theorem dL_nextDueByWalking_13 : decode cL_nextDueByWalking 13 = .ok (.astore 4, 2) := by decide +kernel
theorem dL_nextDueByWalking_15 : decode cL_nextDueByWalking 15 = .ok (.iconst 1, 1) := by decide +kernel
theorem dL_nextDueByWalking_16 : decode cL_nextDueByWalking 16 = .ok (.ireturn, 1) := by decide +kernel
theorem dL_nextDueByWalking_17 : decode cL_nextDueByWalking 17 = .ok (.iconst 0, 1) := by decide +kernel
theorem dL_nextDueByWalking_18 : decode cL_nextDueByWalking 18 = .ok (.ireturn, 1) := by decide +kernel
theorem dL_upcoming_0 : decode cL_upcoming 0 = .ok (.aload_n 3, 1) := by decide +kernel
theorem dL_upcoming_1 : decode cL_upcoming 1 = .ok (.iconst 0, 1) := by decide +kernel
theorem dL_upcoming_2 : decode cL_upcoming 2 = .ok (.aload_n 0, 1) := by decide +kernel
theorem dL_upcoming_3 : decode cL_upcoming 3 = .ok (.iload_n 1, 1) := by decide +kernel
theorem dL_upcoming_4 : decode cL_upcoming 4 = .ok (.iload_n 2, 1) := by decide +kernel
theorem dL_upcoming_5 : decode cL_upcoming 5 = .ok (.invokevirtual 53, 3) := by decide +kernel
theorem dL_upcoming_8 : decode cL_upcoming 8 = .ok (.i2l, 1) := by decide +kernel
theorem dL_upcoming_9 : decode cL_upcoming 9 = .ok (.lastore, 1) := by decide +kernel
theorem dL_upcoming_10 : decode cL_upcoming 10 = .ok (.goto 7, 3) := by decide +kernel
theorem dL_upcoming_13 : decode cL_upcoming 13 = .ok (.astore 4, 2) := by decide +kernel
theorem dL_upcoming_15 : decode cL_upcoming 15 = .ok (.iconst 1, 1) := by decide +kernel
theorem dL_upcoming_16 : decode cL_upcoming 16 = .ok (.ireturn, 1) := by decide +kernel
theorem dL_upcoming_17 : decode cL_upcoming 17 = .ok (.iconst 0, 1) := by decide +kernel
theorem dL_upcoming_18 : decode cL_upcoming 18 = .ok (.ireturn, 1) := by decide +kernel
theorem dL_finish_0 : decode cL_finish 0 = .ok (.aload_n 2, 1) := by decide +kernel
theorem dL_finish_1 : decode cL_finish 1 = .ok (.iconst 0, 1) := by decide +kernel
theorem dL_finish_2 : decode cL_finish 2 = .ok (.aload_n 0, 1) := by decide +kernel
theorem dL_finish_3 : decode cL_finish 3 = .ok (.iload_n 1, 1) := by decide +kernel
theorem dL_finish_4 : decode cL_finish 4 = .ok (.invokevirtual 56, 3) := by decide +kernel
theorem dL_finish_7 : decode cL_finish 7 = .ok (.i2l, 1) := by decide +kernel
theorem dL_finish_8 : decode cL_finish 8 = .ok (.lastore, 1) := by decide +kernel
theorem dL_finish_9 : decode cL_finish 9 = .ok (.goto 12, 3) := by decide +kernel
theorem dL_finish_12 : decode cL_finish 12 = .ok (.astore_n 3, 1) := by decide +kernel
theorem dL_finish_13 : decode cL_finish 13 = .ok (.iconst 1, 1) := by decide +kernel
theorem dL_finish_14 : decode cL_finish 14 = .ok (.ireturn, 1) := by decide +kernel
theorem dL_finish_15 : decode cL_finish 15 = .ok (.astore_n 3, 1) := by decide +kernel
theorem dL_finish_16 : decode cL_finish 16 = .ok (.iconst 2, 1) := by decide +kernel
theorem dL_finish_17 : decode cL_finish 17 = .ok (.ireturn, 1) := by decide +kernel
theorem dL_finish_18 : decode cL_finish 18 = .ok (.astore_n 3, 1) := by decide +kernel
theorem dL_finish_19 : decode cL_finish 19 = .ok (.iconst 3, 1) := by decide +kernel
theorem dL_finish_20 : decode cL_finish 20 = .ok (.ireturn, 1) := by decide +kernel
theorem dL_finish_21 : decode cL_finish 21 = .ok (.iconst 0, 1) := by decide +kernel
theorem dL_finish_22 : decode cL_finish 22 = .ok (.ireturn, 1) := by decide +kernel
theorem dL_open_0 : decode cL_open 0 = .ok (.aload_n 2, 1) := by decide +kernel
theorem dL_open_1 : decode cL_open 1 = .ok (.iconst 0, 1) := by decide +kernel
theorem dL_open_2 : decode cL_open 2 = .ok (.aload_n 0, 1) := by decide +kernel
theorem dL_open_3 : decode cL_open 3 = .ok (.iload_n 1, 1) := by decide +kernel
theorem dL_open_4 : decode cL_open 4 = .ok (.invokevirtual 61, 3) := by decide +kernel
theorem dL_open_7 : decode cL_open 7 = .ok (.i2l, 1) := by decide +kernel
theorem dL_open_8 : decode cL_open 8 = .ok (.lastore, 1) := by decide +kernel
theorem dL_open_9 : decode cL_open 9 = .ok (.goto 6, 3) := by decide +kernel
theorem dL_open_12 : decode cL_open 12 = .ok (.astore_n 3, 1) := by decide +kernel
theorem dL_open_13 : decode cL_open 13 = .ok (.iconst 1, 1) := by decide +kernel
theorem dL_open_14 : decode cL_open 14 = .ok (.ireturn, 1) := by decide +kernel
theorem dL_open_15 : decode cL_open 15 = .ok (.iconst 0, 1) := by decide +kernel
theorem dL_open_16 : decode cL_open 16 = .ok (.ireturn, 1) := by decide +kernel
theorem dL_finished_0 : decode cL_finished 0 = .ok (.aload_n 2, 1) := by decide +kernel
theorem dL_finished_1 : decode cL_finished 1 = .ok (.iconst 0, 1) := by decide +kernel
theorem dL_finished_2 : decode cL_finished 2 = .ok (.aload_n 0, 1) := by decide +kernel
theorem dL_finished_3 : decode cL_finished 3 = .ok (.iload_n 1, 1) := by decide +kernel
theorem dL_finished_4 : decode cL_finished 4 = .ok (.invokevirtual 64, 3) := by decide +kernel
theorem dL_finished_7 : decode cL_finished 7 = .ok (.i2l, 1) := by decide +kernel
theorem dL_finished_8 : decode cL_finished 8 = .ok (.lastore, 1) := by decide +kernel
theorem dL_finished_9 : decode cL_finished 9 = .ok (.goto 6, 3) := by decide +kernel
theorem dL_finished_12 : decode cL_finished 12 = .ok (.astore_n 3, 1) := by decide +kernel
theorem dL_finished_13 : decode cL_finished 13 = .ok (.iconst 1, 1) := by decide +kernel
theorem dL_finished_14 : decode cL_finished 14 = .ok (.ireturn, 1) := by decide +kernel
theorem dL_finished_15 : decode cL_finished 15 = .ok (.iconst 0, 1) := by decide +kernel
theorem dL_finished_16 : decode cL_finished 16 = .ok (.ireturn, 1) := by decide +kernel
theorem dL_blockedBy_0 : decode cL_blockedBy 0 = .ok (.aload_n 2, 1) := by decide +kernel
theorem dL_blockedBy_1 : decode cL_blockedBy 1 = .ok (.iconst 0, 1) := by decide +kernel
theorem dL_blockedBy_2 : decode cL_blockedBy 2 = .ok (.aload_n 0, 1) := by decide +kernel
theorem dL_blockedBy_3 : decode cL_blockedBy 3 = .ok (.iload_n 1, 1) := by decide +kernel
theorem dL_blockedBy_4 : decode cL_blockedBy 4 = .ok (.invokevirtual 67, 3) := by decide +kernel
theorem dL_blockedBy_7 : decode cL_blockedBy 7 = .ok (.i2l, 1) := by decide +kernel
theorem dL_blockedBy_8 : decode cL_blockedBy 8 = .ok (.lastore, 1) := by decide +kernel
theorem dL_blockedBy_9 : decode cL_blockedBy 9 = .ok (.goto 6, 3) := by decide +kernel
theorem dL_blockedBy_12 : decode cL_blockedBy 12 = .ok (.astore_n 3, 1) := by decide +kernel
theorem dL_blockedBy_13 : decode cL_blockedBy 13 = .ok (.iconst 1, 1) := by decide +kernel
theorem dL_blockedBy_14 : decode cL_blockedBy 14 = .ok (.ireturn, 1) := by decide +kernel
theorem dL_blockedBy_15 : decode cL_blockedBy 15 = .ok (.iconst 0, 1) := by decide +kernel
theorem dL_blockedBy_16 : decode cL_blockedBy 16 = .ok (.ireturn, 1) := by decide +kernel
theorem dL_order_0 : decode cL_order 0 = .ok (.aload_n 3, 1) := by decide +kernel
theorem dL_order_1 : decode cL_order 1 = .ok (.iconst 0, 1) := by decide +kernel
theorem dL_order_2 : decode cL_order 2 = .ok (.aload_n 0, 1) := by decide +kernel
theorem dL_order_3 : decode cL_order 3 = .ok (.iload_n 1, 1) := by decide +kernel
theorem dL_order_4 : decode cL_order 4 = .ok (.iload_n 2, 1) := by decide +kernel
theorem dL_order_5 : decode cL_order 5 = .ok (.invokevirtual 70, 3) := by decide +kernel
theorem dL_order_8 : decode cL_order 8 = .ok (.i2l, 1) := by decide +kernel
theorem dL_order_9 : decode cL_order 9 = .ok (.lastore, 1) := by decide +kernel
theorem dL_order_10 : decode cL_order 10 = .ok (.goto 7, 3) := by decide +kernel
theorem dL_order_13 : decode cL_order 13 = .ok (.astore 4, 2) := by decide +kernel
theorem dL_order_15 : decode cL_order 15 = .ok (.iconst 1, 1) := by decide +kernel
theorem dL_order_16 : decode cL_order 16 = .ok (.ireturn, 1) := by decide +kernel
theorem dL_order_17 : decode cL_order 17 = .ok (.iconst 0, 1) := by decide +kernel
theorem dL_order_18 : decode cL_order 18 = .ok (.ireturn, 1) := by decide +kernel
theorem dL_isCovered_0 : decode cL_isCovered 0 = .ok (.aload_n 3, 1) := by decide +kernel
theorem dL_isCovered_1 : decode cL_isCovered 1 = .ok (.iconst 0, 1) := by decide +kernel
theorem dL_isCovered_2 : decode cL_isCovered 2 = .ok (.aload_n 0, 1) := by decide +kernel
theorem dL_isCovered_3 : decode cL_isCovered 3 = .ok (.iload_n 1, 1) := by decide +kernel
theorem dL_isCovered_4 : decode cL_isCovered 4 = .ok (.iload_n 2, 1) := by decide +kernel
theorem dL_isCovered_5 : decode cL_isCovered 5 = .ok (.invokevirtual 73, 3) := by decide +kernel
theorem dL_isCovered_8 : decode cL_isCovered 8 = .ok (.ifCond .eq 7, 3) := by decide +kernel
theorem dL_isCovered_11 : decode cL_isCovered 11 = .ok (.lconst 1, 1) := by decide +kernel
theorem dL_isCovered_12 : decode cL_isCovered 12 = .ok (.goto 4, 3) := by decide +kernel
theorem dL_isCovered_15 : decode cL_isCovered 15 = .ok (.lconst 0, 1) := by decide +kernel
theorem dL_isCovered_16 : decode cL_isCovered 16 = .ok (.lastore, 1) := by decide +kernel
theorem dL_isCovered_17 : decode cL_isCovered 17 = .ok (.goto 7, 3) := by decide +kernel
theorem dL_isCovered_20 : decode cL_isCovered 20 = .ok (.astore 4, 2) := by decide +kernel
theorem dL_isCovered_22 : decode cL_isCovered 22 = .ok (.iconst 1, 1) := by decide +kernel
theorem dL_isCovered_23 : decode cL_isCovered 23 = .ok (.ireturn, 1) := by decide +kernel
theorem dL_isCovered_24 : decode cL_isCovered 24 = .ok (.iconst 0, 1) := by decide +kernel
theorem dL_isCovered_25 : decode cL_isCovered 25 = .ok (.ireturn, 1) := by decide +kernel
theorem dL_lasts_0 : decode cL_lasts 0 = .ok (.aload_n 2, 1) := by decide +kernel
theorem dL_lasts_1 : decode cL_lasts 1 = .ok (.iconst 0, 1) := by decide +kernel
theorem dL_lasts_2 : decode cL_lasts 2 = .ok (.aload_n 0, 1) := by decide +kernel
theorem dL_lasts_3 : decode cL_lasts 3 = .ok (.iload_n 1, 1) := by decide +kernel
theorem dL_lasts_4 : decode cL_lasts 4 = .ok (.invokevirtual 76, 3) := by decide +kernel
theorem dL_lasts_7 : decode cL_lasts 7 = .ok (.i2l, 1) := by decide +kernel
theorem dL_lasts_8 : decode cL_lasts 8 = .ok (.lastore, 1) := by decide +kernel
theorem dL_lasts_9 : decode cL_lasts 9 = .ok (.goto 9, 3) := by decide +kernel
theorem dL_lasts_12 : decode cL_lasts 12 = .ok (.astore_n 3, 1) := by decide +kernel
theorem dL_lasts_13 : decode cL_lasts 13 = .ok (.iconst 1, 1) := by decide +kernel
theorem dL_lasts_14 : decode cL_lasts 14 = .ok (.ireturn, 1) := by decide +kernel
theorem dL_lasts_15 : decode cL_lasts 15 = .ok (.astore_n 3, 1) := by decide +kernel
theorem dL_lasts_16 : decode cL_lasts 16 = .ok (.iconst 2, 1) := by decide +kernel
theorem dL_lasts_17 : decode cL_lasts 17 = .ok (.ireturn, 1) := by decide +kernel
theorem dL_lasts_18 : decode cL_lasts 18 = .ok (.iconst 0, 1) := by decide +kernel
theorem dL_lasts_19 : decode cL_lasts 19 = .ok (.ireturn, 1) := by decide +kernel
theorem dL_load_0 : decode cL_load 0 = .ok (.aload_n 2, 1) := by decide +kernel
theorem dL_load_1 : decode cL_load 1 = .ok (.iconst 0, 1) := by decide +kernel
theorem dL_load_2 : decode cL_load 2 = .ok (.aload_n 0, 1) := by decide +kernel
theorem dL_load_3 : decode cL_load 3 = .ok (.iload_n 1, 1) := by decide +kernel
theorem dL_load_4 : decode cL_load 4 = .ok (.invokevirtual 79, 3) := by decide +kernel
theorem dL_load_7 : decode cL_load 7 = .ok (.i2l, 1) := by decide +kernel
theorem dL_load_8 : decode cL_load 8 = .ok (.lastore, 1) := by decide +kernel
theorem dL_load_9 : decode cL_load 9 = .ok (.goto 6, 3) := by decide +kernel
theorem dL_load_12 : decode cL_load 12 = .ok (.astore_n 3, 1) := by decide +kernel
theorem dL_load_13 : decode cL_load 13 = .ok (.iconst 1, 1) := by decide +kernel
theorem dL_load_14 : decode cL_load 14 = .ok (.ireturn, 1) := by decide +kernel
theorem dL_load_15 : decode cL_load 15 = .ok (.iconst 0, 1) := by decide +kernel
theorem dL_load_16 : decode cL_load 16 = .ok (.ireturn, 1) := by decide +kernel
theorem dL_heaviest_0 : decode cL_heaviest 0 = .ok (.aload_n 3, 1) := by decide +kernel
theorem dL_heaviest_1 : decode cL_heaviest 1 = .ok (.iconst 0, 1) := by decide +kernel
theorem dL_heaviest_2 : decode cL_heaviest 2 = .ok (.aload_n 0, 1) := by decide +kernel
theorem dL_heaviest_3 : decode cL_heaviest 3 = .ok (.iload_n 1, 1) := by decide +kernel
theorem dL_heaviest_4 : decode cL_heaviest 4 = .ok (.iload_n 2, 1) := by decide +kernel
theorem dL_heaviest_5 : decode cL_heaviest 5 = .ok (.invokevirtual 82, 3) := by decide +kernel
theorem dL_heaviest_8 : decode cL_heaviest 8 = .ok (.i2l, 1) := by decide +kernel
theorem dL_heaviest_9 : decode cL_heaviest 9 = .ok (.lastore, 1) := by decide +kernel
theorem dL_heaviest_10 : decode cL_heaviest 10 = .ok (.goto 11, 3) := by decide +kernel
theorem dL_heaviest_13 : decode cL_heaviest 13 = .ok (.astore 4, 2) := by decide +kernel
theorem dL_heaviest_15 : decode cL_heaviest 15 = .ok (.iconst 1, 1) := by decide +kernel
theorem dL_heaviest_16 : decode cL_heaviest 16 = .ok (.ireturn, 1) := by decide +kernel
theorem dL_heaviest_17 : decode cL_heaviest 17 = .ok (.astore 4, 2) := by decide +kernel
theorem dL_heaviest_19 : decode cL_heaviest 19 = .ok (.iconst 2, 1) := by decide +kernel
theorem dL_heaviest_20 : decode cL_heaviest 20 = .ok (.ireturn, 1) := by decide +kernel
theorem dL_heaviest_21 : decode cL_heaviest 21 = .ok (.iconst 0, 1) := by decide +kernel
theorem dL_heaviest_22 : decode cL_heaviest 22 = .ok (.ireturn, 1) := by decide +kernel
theorem dL_level_0 : decode cL_level 0 = .ok (.aload 4, 2) := by decide +kernel
theorem dL_level_2 : decode cL_level 2 = .ok (.iconst 0, 1) := by decide +kernel
theorem dL_level_3 : decode cL_level 3 = .ok (.aload_n 0, 1) := by decide +kernel
theorem dL_level_4 : decode cL_level 4 = .ok (.iload_n 1, 1) := by decide +kernel
theorem dL_level_5 : decode cL_level 5 = .ok (.iload_n 2, 1) := by decide +kernel
theorem dL_level_6 : decode cL_level 6 = .ok (.iload_n 3, 1) := by decide +kernel
theorem dL_level_7 : decode cL_level 7 = .ok (.invokevirtual 85, 3) := by decide +kernel
theorem dL_level_10 : decode cL_level 10 = .ok (.i2l, 1) := by decide +kernel
theorem dL_level_11 : decode cL_level 11 = .ok (.lastore, 1) := by decide +kernel
theorem dL_level_12 : decode cL_level 12 = .ok (.goto 11, 3) := by decide +kernel
theorem dL_level_15 : decode cL_level 15 = .ok (.astore 5, 2) := by decide +kernel
theorem dL_level_17 : decode cL_level 17 = .ok (.iconst 1, 1) := by decide +kernel
theorem dL_level_18 : decode cL_level 18 = .ok (.ireturn, 1) := by decide +kernel
theorem dL_level_19 : decode cL_level 19 = .ok (.astore 5, 2) := by decide +kernel
theorem dL_level_21 : decode cL_level 21 = .ok (.iconst 2, 1) := by decide +kernel
theorem dL_level_22 : decode cL_level 22 = .ok (.ireturn, 1) := by decide +kernel
theorem dL_level_23 : decode cL_level 23 = .ok (.iconst 0, 1) := by decide +kernel
theorem dL_level_24 : decode cL_level 24 = .ok (.ireturn, 1) := by decide +kernel
theorem dL_levelled_0 : decode cL_levelled 0 = .ok (.aload 5, 2) := by decide +kernel
theorem dL_levelled_2 : decode cL_levelled 2 = .ok (.iconst 0, 1) := by decide +kernel
theorem dL_levelled_3 : decode cL_levelled 3 = .ok (.aload_n 0, 1) := by decide +kernel
theorem dL_levelled_4 : decode cL_levelled 4 = .ok (.iload_n 1, 1) := by decide +kernel
theorem dL_levelled_5 : decode cL_levelled 5 = .ok (.iload_n 2, 1) := by decide +kernel
theorem dL_levelled_6 : decode cL_levelled 6 = .ok (.iload_n 3, 1) := by decide +kernel
theorem dL_levelled_7 : decode cL_levelled 7 = .ok (.iload 4, 2) := by decide +kernel
theorem dL_levelled_9 : decode cL_levelled 9 = .ok (.invokevirtual 89, 3) := by decide +kernel
theorem dL_levelled_12 : decode cL_levelled 12 = .ok (.i2l, 1) := by decide +kernel
theorem dL_levelled_13 : decode cL_levelled 13 = .ok (.lastore, 1) := by decide +kernel
theorem dL_levelled_14 : decode cL_levelled 14 = .ok (.goto 11, 3) := by decide +kernel
theorem dL_levelled_17 : decode cL_levelled 17 = .ok (.astore 6, 2) := by decide +kernel
theorem dL_levelled_19 : decode cL_levelled 19 = .ok (.iconst 1, 1) := by decide +kernel
theorem dL_levelled_20 : decode cL_levelled 20 = .ok (.ireturn, 1) := by decide +kernel
theorem dL_levelled_21 : decode cL_levelled 21 = .ok (.astore 6, 2) := by decide +kernel
theorem dL_levelled_23 : decode cL_levelled 23 = .ok (.iconst 2, 1) := by decide +kernel
theorem dL_levelled_24 : decode cL_levelled 24 = .ok (.ireturn, 1) := by decide +kernel
theorem dL_levelled_25 : decode cL_levelled 25 = .ok (.iconst 0, 1) := by decide +kernel
theorem dL_levelled_26 : decode cL_levelled 26 = .ok (.ireturn, 1) := by decide +kernel
end
section
theorem dL_law_0 : decode cL_law 0 = .ok (.new 8, 3) := by decide +kernel
theorem dL_law_3 : decode cL_law 3 = .ok (.dup, 1) := by decide +kernel
theorem dL_law_4 : decode cL_law 4 = .ok (.invokespecial 93, 3) := by decide +kernel
theorem dL_law_7 : decode cL_law 7 = .ok (.astore_n 1, 1) := by decide +kernel
theorem dL_law_8 : decode cL_law 8 = .ok (.new 94, 3) := by decide +kernel
theorem dL_law_11 : decode cL_law 11 = .ok (.dup, 1) := by decide +kernel
theorem dL_law_12 : decode cL_law 12 = .ok (.invokespecial 96, 3) := by decide +kernel
theorem dL_law_15 : decode cL_law 15 = .ok (.astore_n 2, 1) := by decide +kernel
theorem dL_law_16 : decode cL_law 16 = .ok (.iconst 1, 1) := by decide +kernel
theorem dL_law_17 : decode cL_law 17 = .ok (.newarray .long, 2) := by decide +kernel
theorem dL_law_19 : decode cL_law 19 = .ok (.astore_n 3, 1) := by decide +kernel
theorem dL_law_20 : decode cL_law 20 = .ok (.iconst 0, 1) := by decide +kernel
theorem dL_law_21 : decode cL_law 21 = .ok (.istore 4, 2) := by decide +kernel
theorem dL_law_23 : decode cL_law 23 = .ok (.iload 4, 2) := by decide +kernel
theorem dL_law_25 : decode cL_law 25 = .ok (.aload_n 0, 1) := by decide +kernel
theorem dL_law_26 : decode cL_law 26 = .ok (.arraylength, 1) := by decide +kernel
theorem dL_law_27 : decode cL_law 27 = .ok (.bipush 7, 2) := by decide +kernel
theorem dL_law_29 : decode cL_law 29 = .ok (.isub, 1) := by decide +kernel
theorem dL_law_30 : decode cL_law 30 = .ok (.if_icmp .gt 1733, 3) := by decide +kernel
theorem dL_law_33 : decode cL_law 33 = .ok (.aload_n 0, 1) := by decide +kernel
theorem dL_law_34 : decode cL_law 34 = .ok (.iload 4, 2) := by decide +kernel
theorem dL_law_36 : decode cL_law 36 = .ok (.iaload, 1) := by decide +kernel
theorem dL_law_37 : decode cL_law 37 = .ok (.bipush 31, 2) := by decide +kernel
theorem dL_law_39 : decode cL_law 39 = .ok (.iand, 1) := by decide +kernel
theorem dL_law_40 : decode cL_law 40 = .ok (.tableswitch 1717 0 25 #[120, 183, 246, 314, 370, 383, 501, 569, 644, 657, 725, 781, 849, 917, 985, 1041, 1097, 1153, 1209, 1222, 1290, 1365, 1421, 1477, 1545, 1625], 120) := by decide +kernel
theorem dL_law_160 : decode cL_law 160 = .ok (.aload_n 1, 1) := by decide +kernel
theorem dL_law_161 : decode cL_law 161 = .ok (.aload_n 0, 1) := by decide +kernel
theorem dL_law_162 : decode cL_law 162 = .ok (.iload 4, 2) := by decide +kernel
theorem dL_law_164 : decode cL_law 164 = .ok (.iconst 1, 1) := by decide +kernel
theorem dL_law_165 : decode cL_law 165 = .ok (.iadd, 1) := by decide +kernel
theorem dL_law_166 : decode cL_law 166 = .ok (.iaload, 1) := by decide +kernel
theorem dL_law_167 : decode cL_law 167 = .ok (.aload_n 3, 1) := by decide +kernel
theorem dL_law_168 : decode cL_law 168 = .ok (.invokestatic 97, 3) := by decide +kernel
theorem dL_law_171 : decode cL_law 171 = .ok (.istore 5, 2) := by decide +kernel
theorem dL_law_173 : decode cL_law 173 = .ok (.aload_n 2, 1) := by decide +kernel
theorem dL_law_174 : decode cL_law 174 = .ok (.aload_n 0, 1) := by decide +kernel
theorem dL_law_175 : decode cL_law 175 = .ok (.iload 4, 2) := by decide +kernel
theorem dL_law_177 : decode cL_law 177 = .ok (.iconst 1, 1) := by decide +kernel
theorem dL_law_178 : decode cL_law 178 = .ok (.iadd, 1) := by decide +kernel
theorem dL_law_179 : decode cL_law 179 = .ok (.iaload, 1) := by decide +kernel
theorem dL_law_180 : decode cL_law 180 = .ok (.invokevirtual 102, 3) := by decide +kernel
theorem dL_law_183 : decode cL_law 183 = .ok (.istore 6, 2) := by decide +kernel
theorem dL_law_185 : decode cL_law 185 = .ok (.aload_n 2, 1) := by decide +kernel
theorem dL_law_186 : decode cL_law 186 = .ok (.invokevirtual 103, 3) := by decide +kernel
theorem dL_law_189 : decode cL_law 189 = .ok (.iload 5, 2) := by decide +kernel
theorem dL_law_191 : decode cL_law 191 = .ok (.if_icmp .eq 5, 3) := by decide +kernel
theorem dL_law_194 : decode cL_law 194 = .ok (.iconst 0, 1) := by decide +kernel
theorem dL_law_195 : decode cL_law 195 = .ok (.ireturn, 1) := by decide +kernel
theorem dL_law_196 : decode cL_law 196 = .ok (.iload 5, 2) := by decide +kernel
theorem dL_law_198 : decode cL_law 198 = .ok (.ifCond .ne 22, 3) := by decide +kernel
theorem dL_law_201 : decode cL_law 201 = .ok (.aload_n 3, 1) := by decide +kernel
theorem dL_law_202 : decode cL_law 202 = .ok (.iconst 0, 1) := by decide +kernel
theorem dL_law_203 : decode cL_law 203 = .ok (.laload, 1) := by decide +kernel
theorem dL_law_204 : decode cL_law 204 = .ok (.iload 6, 2) := by decide +kernel
theorem dL_law_206 : decode cL_law 206 = .ok (.ifCond .eq 7, 3) := by decide +kernel
theorem dL_law_209 : decode cL_law 209 = .ok (.lconst 1, 1) := by decide +kernel
theorem dL_law_210 : decode cL_law 210 = .ok (.goto 4, 3) := by decide +kernel
theorem dL_law_213 : decode cL_law 213 = .ok (.lconst 0, 1) := by decide +kernel
theorem dL_law_214 : decode cL_law 214 = .ok (.lcmp, 1) := by decide +kernel
theorem dL_law_215 : decode cL_law 215 = .ok (.ifCond .eq 5, 3) := by decide +kernel
theorem dL_law_218 : decode cL_law 218 = .ok (.iconst 0, 1) := by decide +kernel
theorem dL_law_219 : decode cL_law 219 = .ok (.ireturn, 1) := by decide +kernel
theorem dL_law_220 : decode cL_law 220 = .ok (.goto 1537, 3) := by decide +kernel
theorem dL_law_223 : decode cL_law 223 = .ok (.aload_n 1, 1) := by decide +kernel
theorem dL_law_224 : decode cL_law 224 = .ok (.aload_n 0, 1) := by decide +kernel
theorem dL_law_225 : decode cL_law 225 = .ok (.iload 4, 2) := by decide +kernel
theorem dL_law_227 : decode cL_law 227 = .ok (.iconst 1, 1) := by decide +kernel
theorem dL_law_228 : decode cL_law 228 = .ok (.iadd, 1) := by decide +kernel
theorem dL_law_229 : decode cL_law 229 = .ok (.iaload, 1) := by decide +kernel
theorem dL_law_230 : decode cL_law 230 = .ok (.aload_n 3, 1) := by decide +kernel
theorem dL_law_231 : decode cL_law 231 = .ok (.invokestatic 107, 3) := by decide +kernel
theorem dL_law_234 : decode cL_law 234 = .ok (.istore 5, 2) := by decide +kernel
theorem dL_law_236 : decode cL_law 236 = .ok (.aload_n 2, 1) := by decide +kernel
theorem dL_law_237 : decode cL_law 237 = .ok (.aload_n 0, 1) := by decide +kernel
theorem dL_law_238 : decode cL_law 238 = .ok (.iload 4, 2) := by decide +kernel
theorem dL_law_240 : decode cL_law 240 = .ok (.iconst 1, 1) := by decide +kernel
theorem dL_law_241 : decode cL_law 241 = .ok (.iadd, 1) := by decide +kernel
theorem dL_law_242 : decode cL_law 242 = .ok (.iaload, 1) := by decide +kernel
theorem dL_law_243 : decode cL_law 243 = .ok (.invokevirtual 109, 3) := by decide +kernel
theorem dL_law_246 : decode cL_law 246 = .ok (.istore 6, 2) := by decide +kernel
theorem dL_law_248 : decode cL_law 248 = .ok (.aload_n 2, 1) := by decide +kernel
theorem dL_law_249 : decode cL_law 249 = .ok (.invokevirtual 103, 3) := by decide +kernel
theorem dL_law_252 : decode cL_law 252 = .ok (.iload 5, 2) := by decide +kernel
theorem dL_law_254 : decode cL_law 254 = .ok (.if_icmp .eq 5, 3) := by decide +kernel
theorem dL_law_257 : decode cL_law 257 = .ok (.iconst 0, 1) := by decide +kernel
theorem dL_law_258 : decode cL_law 258 = .ok (.ireturn, 1) := by decide +kernel
theorem dL_law_259 : decode cL_law 259 = .ok (.iload 5, 2) := by decide +kernel
theorem dL_law_261 : decode cL_law 261 = .ok (.ifCond .ne 22, 3) := by decide +kernel
theorem dL_law_264 : decode cL_law 264 = .ok (.aload_n 3, 1) := by decide +kernel
theorem dL_law_265 : decode cL_law 265 = .ok (.iconst 0, 1) := by decide +kernel
theorem dL_law_266 : decode cL_law 266 = .ok (.laload, 1) := by decide +kernel
theorem dL_law_267 : decode cL_law 267 = .ok (.iload 6, 2) := by decide +kernel
theorem dL_law_269 : decode cL_law 269 = .ok (.ifCond .eq 7, 3) := by decide +kernel
theorem dL_law_272 : decode cL_law 272 = .ok (.lconst 1, 1) := by decide +kernel
theorem dL_law_273 : decode cL_law 273 = .ok (.goto 4, 3) := by decide +kernel
theorem dL_law_276 : decode cL_law 276 = .ok (.lconst 0, 1) := by decide +kernel
theorem dL_law_277 : decode cL_law 277 = .ok (.lcmp, 1) := by decide +kernel
theorem dL_law_278 : decode cL_law 278 = .ok (.ifCond .eq 5, 3) := by decide +kernel
theorem dL_law_281 : decode cL_law 281 = .ok (.iconst 0, 1) := by decide +kernel
theorem dL_law_282 : decode cL_law 282 = .ok (.ireturn, 1) := by decide +kernel
theorem dL_law_283 : decode cL_law 283 = .ok (.goto 1474, 3) := by decide +kernel
theorem dL_law_286 : decode cL_law 286 = .ok (.aload_n 1, 1) := by decide +kernel
theorem dL_law_287 : decode cL_law 287 = .ok (.aload_n 0, 1) := by decide +kernel
theorem dL_law_288 : decode cL_law 288 = .ok (.iload 4, 2) := by decide +kernel
theorem dL_law_290 : decode cL_law 290 = .ok (.iconst 1, 1) := by decide +kernel
theorem dL_law_291 : decode cL_law 291 = .ok (.iadd, 1) := by decide +kernel
theorem dL_law_292 : decode cL_law 292 = .ok (.iaload, 1) := by decide +kernel
theorem dL_law_293 : decode cL_law 293 = .ok (.aload_n 0, 1) := by decide +kernel
theorem dL_law_294 : decode cL_law 294 = .ok (.iload 4, 2) := by decide +kernel
theorem dL_law_296 : decode cL_law 296 = .ok (.iconst 2, 1) := by decide +kernel
theorem dL_law_297 : decode cL_law 297 = .ok (.iadd, 1) := by decide +kernel
theorem dL_law_298 : decode cL_law 298 = .ok (.iaload, 1) := by decide +kernel
theorem dL_law_299 : decode cL_law 299 = .ok (.aload_n 3, 1) := by decide +kernel
theorem dL_law_300 : decode cL_law 300 = .ok (.invokestatic 110, 3) := by decide +kernel
theorem dL_law_303 : decode cL_law 303 = .ok (.istore 5, 2) := by decide +kernel
theorem dL_law_305 : decode cL_law 305 = .ok (.aload_n 2, 1) := by decide +kernel
theorem dL_law_306 : decode cL_law 306 = .ok (.aload_n 0, 1) := by decide +kernel
theorem dL_law_307 : decode cL_law 307 = .ok (.iload 4, 2) := by decide +kernel
theorem dL_law_309 : decode cL_law 309 = .ok (.iconst 1, 1) := by decide +kernel
theorem dL_law_310 : decode cL_law 310 = .ok (.iadd, 1) := by decide +kernel
theorem dL_law_311 : decode cL_law 311 = .ok (.iaload, 1) := by decide +kernel
theorem dL_law_312 : decode cL_law 312 = .ok (.aload_n 0, 1) := by decide +kernel
theorem dL_law_313 : decode cL_law 313 = .ok (.iload 4, 2) := by decide +kernel
theorem dL_law_315 : decode cL_law 315 = .ok (.iconst 2, 1) := by decide +kernel
theorem dL_law_316 : decode cL_law 316 = .ok (.iadd, 1) := by decide +kernel
theorem dL_law_317 : decode cL_law 317 = .ok (.iaload, 1) := by decide +kernel
theorem dL_law_318 : decode cL_law 318 = .ok (.invokevirtual 113, 3) := by decide +kernel
theorem dL_law_321 : decode cL_law 321 = .ok (.istore 6, 2) := by decide +kernel
theorem dL_law_323 : decode cL_law 323 = .ok (.aload_n 2, 1) := by decide +kernel
theorem dL_law_324 : decode cL_law 324 = .ok (.invokevirtual 103, 3) := by decide +kernel
theorem dL_law_327 : decode cL_law 327 = .ok (.iload 5, 2) := by decide +kernel
theorem dL_law_329 : decode cL_law 329 = .ok (.if_icmp .eq 5, 3) := by decide +kernel
theorem dL_law_332 : decode cL_law 332 = .ok (.iconst 0, 1) := by decide +kernel
theorem dL_law_333 : decode cL_law 333 = .ok (.ireturn, 1) := by decide +kernel
theorem dL_law_334 : decode cL_law 334 = .ok (.iload 5, 2) := by decide +kernel
theorem dL_law_336 : decode cL_law 336 = .ok (.ifCond .ne 15, 3) := by decide +kernel
theorem dL_law_339 : decode cL_law 339 = .ok (.aload_n 3, 1) := by decide +kernel
theorem dL_law_340 : decode cL_law 340 = .ok (.iconst 0, 1) := by decide +kernel
theorem dL_law_341 : decode cL_law 341 = .ok (.laload, 1) := by decide +kernel
theorem dL_law_342 : decode cL_law 342 = .ok (.iload 6, 2) := by decide +kernel
theorem dL_law_344 : decode cL_law 344 = .ok (.i2l, 1) := by decide +kernel
theorem dL_law_345 : decode cL_law 345 = .ok (.lcmp, 1) := by decide +kernel
theorem dL_law_346 : decode cL_law 346 = .ok (.ifCond .eq 5, 3) := by decide +kernel
theorem dL_law_349 : decode cL_law 349 = .ok (.iconst 0, 1) := by decide +kernel
theorem dL_law_350 : decode cL_law 350 = .ok (.ireturn, 1) := by decide +kernel
theorem dL_law_351 : decode cL_law 351 = .ok (.goto 1406, 3) := by decide +kernel
theorem dL_law_354 : decode cL_law 354 = .ok (.aload_n 1, 1) := by decide +kernel
theorem dL_law_355 : decode cL_law 355 = .ok (.aload_n 0, 1) := by decide +kernel
theorem dL_law_356 : decode cL_law 356 = .ok (.iload 4, 2) := by decide +kernel
theorem dL_law_358 : decode cL_law 358 = .ok (.iconst 1, 1) := by decide +kernel
theorem dL_law_359 : decode cL_law 359 = .ok (.iadd, 1) := by decide +kernel
theorem dL_law_360 : decode cL_law 360 = .ok (.iaload, 1) := by decide +kernel
theorem dL_law_361 : decode cL_law 361 = .ok (.aload_n 3, 1) := by decide +kernel
theorem dL_law_362 : decode cL_law 362 = .ok (.invokestatic 114, 3) := by decide +kernel
theorem dL_law_365 : decode cL_law 365 = .ok (.istore 5, 2) := by decide +kernel
theorem dL_law_367 : decode cL_law 367 = .ok (.aload_n 2, 1) := by decide +kernel
theorem dL_law_368 : decode cL_law 368 = .ok (.aload_n 0, 1) := by decide +kernel
theorem dL_law_369 : decode cL_law 369 = .ok (.iload 4, 2) := by decide +kernel
theorem dL_law_371 : decode cL_law 371 = .ok (.iconst 1, 1) := by decide +kernel
theorem dL_law_372 : decode cL_law 372 = .ok (.iadd, 1) := by decide +kernel
theorem dL_law_373 : decode cL_law 373 = .ok (.iaload, 1) := by decide +kernel
theorem dL_law_374 : decode cL_law 374 = .ok (.invokevirtual 116, 3) := by decide +kernel
theorem dL_law_377 : decode cL_law 377 = .ok (.istore 6, 2) := by decide +kernel
theorem dL_law_379 : decode cL_law 379 = .ok (.aload_n 2, 1) := by decide +kernel
theorem dL_law_380 : decode cL_law 380 = .ok (.invokevirtual 103, 3) := by decide +kernel
theorem dL_law_383 : decode cL_law 383 = .ok (.iload 5, 2) := by decide +kernel
theorem dL_law_385 : decode cL_law 385 = .ok (.if_icmp .eq 5, 3) := by decide +kernel
theorem dL_law_388 : decode cL_law 388 = .ok (.iconst 0, 1) := by decide +kernel
theorem dL_law_389 : decode cL_law 389 = .ok (.ireturn, 1) := by decide +kernel
theorem dL_law_390 : decode cL_law 390 = .ok (.iload 5, 2) := by decide +kernel
theorem dL_law_392 : decode cL_law 392 = .ok (.ifCond .ne 15, 3) := by decide +kernel
theorem dL_law_395 : decode cL_law 395 = .ok (.aload_n 3, 1) := by decide +kernel
theorem dL_law_396 : decode cL_law 396 = .ok (.iconst 0, 1) := by decide +kernel
theorem dL_law_397 : decode cL_law 397 = .ok (.laload, 1) := by decide +kernel
theorem dL_law_398 : decode cL_law 398 = .ok (.iload 6, 2) := by decide +kernel
theorem dL_law_400 : decode cL_law 400 = .ok (.i2l, 1) := by decide +kernel
theorem dL_law_401 : decode cL_law 401 = .ok (.lcmp, 1) := by decide +kernel
theorem dL_law_402 : decode cL_law 402 = .ok (.ifCond .eq 5, 3) := by decide +kernel
theorem dL_law_405 : decode cL_law 405 = .ok (.iconst 0, 1) := by decide +kernel
theorem dL_law_406 : decode cL_law 406 = .ok (.ireturn, 1) := by decide +kernel
theorem dL_law_407 : decode cL_law 407 = .ok (.goto 1350, 3) := by decide +kernel
theorem dL_law_410 : decode cL_law 410 = .ok (.aload_n 1, 1) := by decide +kernel
theorem dL_law_411 : decode cL_law 411 = .ok (.invokevirtual 117, 3) := by decide +kernel
theorem dL_law_414 : decode cL_law 414 = .ok (.aload_n 2, 1) := by decide +kernel
theorem dL_law_415 : decode cL_law 415 = .ok (.invokevirtual 120, 3) := by decide +kernel
theorem dL_law_418 : decode cL_law 418 = .ok (.if_icmp .eq 1339, 3) := by decide +kernel
theorem dL_law_421 : decode cL_law 421 = .ok (.iconst 0, 1) := by decide +kernel
theorem dL_law_422 : decode cL_law 422 = .ok (.ireturn, 1) := by decide +kernel
theorem dL_law_423 : decode cL_law 423 = .ok (.aload_n 1, 1) := by decide +kernel
theorem dL_law_424 : decode cL_law 424 = .ok (.aload_n 0, 1) := by decide +kernel
theorem dL_law_425 : decode cL_law 425 = .ok (.iload 4, 2) := by decide +kernel
theorem dL_law_427 : decode cL_law 427 = .ok (.iconst 1, 1) := by decide +kernel
theorem dL_law_428 : decode cL_law 428 = .ok (.iadd, 1) := by decide +kernel
theorem dL_law_429 : decode cL_law 429 = .ok (.iaload, 1) := by decide +kernel
theorem dL_law_430 : decode cL_law 430 = .ok (.aload_n 0, 1) := by decide +kernel
theorem dL_law_431 : decode cL_law 431 = .ok (.iload 4, 2) := by decide +kernel
theorem dL_law_433 : decode cL_law 433 = .ok (.iconst 2, 1) := by decide +kernel
theorem dL_law_434 : decode cL_law 434 = .ok (.iadd, 1) := by decide +kernel
theorem dL_law_435 : decode cL_law 435 = .ok (.iaload, 1) := by decide +kernel
theorem dL_law_436 : decode cL_law 436 = .ok (.aload_n 0, 1) := by decide +kernel
theorem dL_law_437 : decode cL_law 437 = .ok (.iload 4, 2) := by decide +kernel
theorem dL_law_439 : decode cL_law 439 = .ok (.iconst 3, 1) := by decide +kernel
theorem dL_law_440 : decode cL_law 440 = .ok (.iadd, 1) := by decide +kernel
theorem dL_law_441 : decode cL_law 441 = .ok (.iaload, 1) := by decide +kernel
theorem dL_law_442 : decode cL_law 442 = .ok (.aload_n 0, 1) := by decide +kernel
theorem dL_law_443 : decode cL_law 443 = .ok (.iload 4, 2) := by decide +kernel
theorem dL_law_445 : decode cL_law 445 = .ok (.iconst 4, 1) := by decide +kernel
theorem dL_law_446 : decode cL_law 446 = .ok (.iadd, 1) := by decide +kernel
theorem dL_law_447 : decode cL_law 447 = .ok (.iaload, 1) := by decide +kernel
theorem dL_law_448 : decode cL_law 448 = .ok (.aload_n 0, 1) := by decide +kernel
theorem dL_law_449 : decode cL_law 449 = .ok (.iload 4, 2) := by decide +kernel
theorem dL_law_451 : decode cL_law 451 = .ok (.iconst 5, 1) := by decide +kernel
theorem dL_law_452 : decode cL_law 452 = .ok (.iadd, 1) := by decide +kernel
theorem dL_law_453 : decode cL_law 453 = .ok (.iaload, 1) := by decide +kernel
theorem dL_law_454 : decode cL_law 454 = .ok (.aload_n 0, 1) := by decide +kernel
theorem dL_law_455 : decode cL_law 455 = .ok (.iload 4, 2) := by decide +kernel
theorem dL_law_457 : decode cL_law 457 = .ok (.bipush 6, 2) := by decide +kernel
theorem dL_law_459 : decode cL_law 459 = .ok (.iadd, 1) := by decide +kernel
theorem dL_law_460 : decode cL_law 460 = .ok (.iaload, 1) := by decide +kernel
theorem dL_law_461 : decode cL_law 461 = .ok (.aload_n 3, 1) := by decide +kernel
theorem dL_law_462 : decode cL_law 462 = .ok (.invokestatic 121, 3) := by decide +kernel
theorem dL_law_465 : decode cL_law 465 = .ok (.istore 5, 2) := by decide +kernel
theorem dL_law_467 : decode cL_law 467 = .ok (.aload_n 2, 1) := by decide +kernel
theorem dL_law_468 : decode cL_law 468 = .ok (.aload_n 0, 1) := by decide +kernel
theorem dL_law_469 : decode cL_law 469 = .ok (.iload 4, 2) := by decide +kernel
theorem dL_law_471 : decode cL_law 471 = .ok (.iconst 1, 1) := by decide +kernel
theorem dL_law_472 : decode cL_law 472 = .ok (.iadd, 1) := by decide +kernel
theorem dL_law_473 : decode cL_law 473 = .ok (.iaload, 1) := by decide +kernel
theorem dL_law_474 : decode cL_law 474 = .ok (.aload_n 0, 1) := by decide +kernel
theorem dL_law_475 : decode cL_law 475 = .ok (.iload 4, 2) := by decide +kernel
theorem dL_law_477 : decode cL_law 477 = .ok (.iconst 2, 1) := by decide +kernel
theorem dL_law_478 : decode cL_law 478 = .ok (.iadd, 1) := by decide +kernel
theorem dL_law_479 : decode cL_law 479 = .ok (.iaload, 1) := by decide +kernel
theorem dL_law_480 : decode cL_law 480 = .ok (.aload_n 0, 1) := by decide +kernel
theorem dL_law_481 : decode cL_law 481 = .ok (.iload 4, 2) := by decide +kernel
theorem dL_law_483 : decode cL_law 483 = .ok (.iconst 3, 1) := by decide +kernel
theorem dL_law_484 : decode cL_law 484 = .ok (.iadd, 1) := by decide +kernel
theorem dL_law_485 : decode cL_law 485 = .ok (.iaload, 1) := by decide +kernel
theorem dL_law_486 : decode cL_law 486 = .ok (.aload_n 0, 1) := by decide +kernel
theorem dL_law_487 : decode cL_law 487 = .ok (.iload 4, 2) := by decide +kernel
theorem dL_law_489 : decode cL_law 489 = .ok (.iconst 4, 1) := by decide +kernel
theorem dL_law_490 : decode cL_law 490 = .ok (.iadd, 1) := by decide +kernel
theorem dL_law_491 : decode cL_law 491 = .ok (.iaload, 1) := by decide +kernel
theorem dL_law_492 : decode cL_law 492 = .ok (.aload_n 0, 1) := by decide +kernel
theorem dL_law_493 : decode cL_law 493 = .ok (.iload 4, 2) := by decide +kernel
theorem dL_law_495 : decode cL_law 495 = .ok (.iconst 5, 1) := by decide +kernel
theorem dL_law_496 : decode cL_law 496 = .ok (.iadd, 1) := by decide +kernel
theorem dL_law_497 : decode cL_law 497 = .ok (.iaload, 1) := by decide +kernel
theorem dL_law_498 : decode cL_law 498 = .ok (.aload_n 0, 1) := by decide +kernel
theorem dL_law_499 : decode cL_law 499 = .ok (.iload 4, 2) := by decide +kernel
theorem dL_law_501 : decode cL_law 501 = .ok (.bipush 6, 2) := by decide +kernel
theorem dL_law_503 : decode cL_law 503 = .ok (.iadd, 1) := by decide +kernel
theorem dL_law_504 : decode cL_law 504 = .ok (.iaload, 1) := by decide +kernel
theorem dL_law_505 : decode cL_law 505 = .ok (.invokevirtual 124, 3) := by decide +kernel
theorem dL_law_508 : decode cL_law 508 = .ok (.istore 6, 2) := by decide +kernel
theorem dL_law_510 : decode cL_law 510 = .ok (.aload_n 2, 1) := by decide +kernel
theorem dL_law_511 : decode cL_law 511 = .ok (.invokevirtual 103, 3) := by decide +kernel
theorem dL_law_514 : decode cL_law 514 = .ok (.iload 5, 2) := by decide +kernel
theorem dL_law_516 : decode cL_law 516 = .ok (.if_icmp .eq 5, 3) := by decide +kernel
theorem dL_law_519 : decode cL_law 519 = .ok (.iconst 0, 1) := by decide +kernel
theorem dL_law_520 : decode cL_law 520 = .ok (.ireturn, 1) := by decide +kernel
theorem dL_law_521 : decode cL_law 521 = .ok (.iload 5, 2) := by decide +kernel
theorem dL_law_523 : decode cL_law 523 = .ok (.ifCond .ne 15, 3) := by decide +kernel
theorem dL_law_526 : decode cL_law 526 = .ok (.aload_n 3, 1) := by decide +kernel
theorem dL_law_527 : decode cL_law 527 = .ok (.iconst 0, 1) := by decide +kernel
theorem dL_law_528 : decode cL_law 528 = .ok (.laload, 1) := by decide +kernel
theorem dL_law_529 : decode cL_law 529 = .ok (.iload 6, 2) := by decide +kernel
theorem dL_law_531 : decode cL_law 531 = .ok (.i2l, 1) := by decide +kernel
theorem dL_law_532 : decode cL_law 532 = .ok (.lcmp, 1) := by decide +kernel
theorem dL_law_533 : decode cL_law 533 = .ok (.ifCond .eq 5, 3) := by decide +kernel
theorem dL_law_536 : decode cL_law 536 = .ok (.iconst 0, 1) := by decide +kernel
theorem dL_law_537 : decode cL_law 537 = .ok (.ireturn, 1) := by decide +kernel
theorem dL_law_538 : decode cL_law 538 = .ok (.goto 1219, 3) := by decide +kernel
theorem dL_law_541 : decode cL_law 541 = .ok (.aload_n 1, 1) := by decide +kernel
theorem dL_law_542 : decode cL_law 542 = .ok (.aload_n 0, 1) := by decide +kernel
theorem dL_law_543 : decode cL_law 543 = .ok (.iload 4, 2) := by decide +kernel
theorem dL_law_545 : decode cL_law 545 = .ok (.iconst 1, 1) := by decide +kernel
theorem dL_law_546 : decode cL_law 546 = .ok (.iadd, 1) := by decide +kernel
theorem dL_law_547 : decode cL_law 547 = .ok (.iaload, 1) := by decide +kernel
theorem dL_law_548 : decode cL_law 548 = .ok (.aload_n 0, 1) := by decide +kernel
theorem dL_law_549 : decode cL_law 549 = .ok (.iload 4, 2) := by decide +kernel
theorem dL_law_551 : decode cL_law 551 = .ok (.iconst 2, 1) := by decide +kernel
theorem dL_law_552 : decode cL_law 552 = .ok (.iadd, 1) := by decide +kernel
theorem dL_law_553 : decode cL_law 553 = .ok (.iaload, 1) := by decide +kernel
theorem dL_law_554 : decode cL_law 554 = .ok (.aload_n 3, 1) := by decide +kernel
theorem dL_law_555 : decode cL_law 555 = .ok (.invokestatic 125, 3) := by decide +kernel
theorem dL_law_558 : decode cL_law 558 = .ok (.istore 5, 2) := by decide +kernel
theorem dL_law_560 : decode cL_law 560 = .ok (.aload_n 2, 1) := by decide +kernel
theorem dL_law_561 : decode cL_law 561 = .ok (.aload_n 0, 1) := by decide +kernel
theorem dL_law_562 : decode cL_law 562 = .ok (.iload 4, 2) := by decide +kernel
theorem dL_law_564 : decode cL_law 564 = .ok (.iconst 1, 1) := by decide +kernel
theorem dL_law_565 : decode cL_law 565 = .ok (.iadd, 1) := by decide +kernel
theorem dL_law_566 : decode cL_law 566 = .ok (.iaload, 1) := by decide +kernel
theorem dL_law_567 : decode cL_law 567 = .ok (.aload_n 0, 1) := by decide +kernel
theorem dL_law_568 : decode cL_law 568 = .ok (.iload 4, 2) := by decide +kernel
theorem dL_law_570 : decode cL_law 570 = .ok (.iconst 2, 1) := by decide +kernel
theorem dL_law_571 : decode cL_law 571 = .ok (.iadd, 1) := by decide +kernel
theorem dL_law_572 : decode cL_law 572 = .ok (.iaload, 1) := by decide +kernel
theorem dL_law_573 : decode cL_law 573 = .ok (.invokevirtual 127, 3) := by decide +kernel
theorem dL_law_576 : decode cL_law 576 = .ok (.istore 6, 2) := by decide +kernel
theorem dL_law_578 : decode cL_law 578 = .ok (.aload_n 2, 1) := by decide +kernel
theorem dL_law_579 : decode cL_law 579 = .ok (.invokevirtual 103, 3) := by decide +kernel
theorem dL_law_582 : decode cL_law 582 = .ok (.iload 5, 2) := by decide +kernel
theorem dL_law_584 : decode cL_law 584 = .ok (.if_icmp .eq 5, 3) := by decide +kernel
theorem dL_law_587 : decode cL_law 587 = .ok (.iconst 0, 1) := by decide +kernel
theorem dL_law_588 : decode cL_law 588 = .ok (.ireturn, 1) := by decide +kernel
theorem dL_law_589 : decode cL_law 589 = .ok (.iload 5, 2) := by decide +kernel
theorem dL_law_591 : decode cL_law 591 = .ok (.ifCond .ne 15, 3) := by decide +kernel
theorem dL_law_594 : decode cL_law 594 = .ok (.aload_n 3, 1) := by decide +kernel
theorem dL_law_595 : decode cL_law 595 = .ok (.iconst 0, 1) := by decide +kernel
theorem dL_law_596 : decode cL_law 596 = .ok (.laload, 1) := by decide +kernel
theorem dL_law_597 : decode cL_law 597 = .ok (.iload 6, 2) := by decide +kernel
theorem dL_law_599 : decode cL_law 599 = .ok (.i2l, 1) := by decide +kernel
theorem dL_law_600 : decode cL_law 600 = .ok (.lcmp, 1) := by decide +kernel
theorem dL_law_601 : decode cL_law 601 = .ok (.ifCond .eq 5, 3) := by decide +kernel
theorem dL_law_604 : decode cL_law 604 = .ok (.iconst 0, 1) := by decide +kernel
theorem dL_law_605 : decode cL_law 605 = .ok (.ireturn, 1) := by decide +kernel
theorem dL_law_606 : decode cL_law 606 = .ok (.goto 1151, 3) := by decide +kernel
theorem dL_law_609 : decode cL_law 609 = .ok (.aload_n 1, 1) := by decide +kernel
theorem dL_law_610 : decode cL_law 610 = .ok (.aload_n 0, 1) := by decide +kernel
theorem dL_law_611 : decode cL_law 611 = .ok (.iload 4, 2) := by decide +kernel
theorem dL_law_613 : decode cL_law 613 = .ok (.iconst 1, 1) := by decide +kernel
theorem dL_law_614 : decode cL_law 614 = .ok (.iadd, 1) := by decide +kernel
theorem dL_law_615 : decode cL_law 615 = .ok (.iaload, 1) := by decide +kernel
theorem dL_law_616 : decode cL_law 616 = .ok (.aload_n 0, 1) := by decide +kernel
theorem dL_law_617 : decode cL_law 617 = .ok (.iload 4, 2) := by decide +kernel
theorem dL_law_619 : decode cL_law 619 = .ok (.iconst 2, 1) := by decide +kernel
theorem dL_law_620 : decode cL_law 620 = .ok (.iadd, 1) := by decide +kernel
theorem dL_law_621 : decode cL_law 621 = .ok (.iaload, 1) := by decide +kernel
theorem dL_law_622 : decode cL_law 622 = .ok (.aload_n 3, 1) := by decide +kernel
theorem dL_law_623 : decode cL_law 623 = .ok (.invokestatic 128, 3) := by decide +kernel
theorem dL_law_626 : decode cL_law 626 = .ok (.istore 5, 2) := by decide +kernel
theorem dL_law_628 : decode cL_law 628 = .ok (.aload_n 2, 1) := by decide +kernel
theorem dL_law_629 : decode cL_law 629 = .ok (.aload_n 0, 1) := by decide +kernel
theorem dL_law_630 : decode cL_law 630 = .ok (.iload 4, 2) := by decide +kernel
theorem dL_law_632 : decode cL_law 632 = .ok (.iconst 1, 1) := by decide +kernel
theorem dL_law_633 : decode cL_law 633 = .ok (.iadd, 1) := by decide +kernel
theorem dL_law_634 : decode cL_law 634 = .ok (.iaload, 1) := by decide +kernel
theorem dL_law_635 : decode cL_law 635 = .ok (.aload_n 0, 1) := by decide +kernel
theorem dL_law_636 : decode cL_law 636 = .ok (.iload 4, 2) := by decide +kernel
theorem dL_law_638 : decode cL_law 638 = .ok (.iconst 2, 1) := by decide +kernel
theorem dL_law_639 : decode cL_law 639 = .ok (.iadd, 1) := by decide +kernel
theorem dL_law_640 : decode cL_law 640 = .ok (.iaload, 1) := by decide +kernel
theorem dL_law_641 : decode cL_law 641 = .ok (.invokevirtual 130, 3) := by decide +kernel
theorem dL_law_644 : decode cL_law 644 = .ok (.istore 6, 2) := by decide +kernel
theorem dL_law_646 : decode cL_law 646 = .ok (.aload_n 2, 1) := by decide +kernel
theorem dL_law_647 : decode cL_law 647 = .ok (.invokevirtual 103, 3) := by decide +kernel
theorem dL_law_650 : decode cL_law 650 = .ok (.iload 5, 2) := by decide +kernel
theorem dL_law_652 : decode cL_law 652 = .ok (.if_icmp .eq 5, 3) := by decide +kernel
theorem dL_law_655 : decode cL_law 655 = .ok (.iconst 0, 1) := by decide +kernel
theorem dL_law_656 : decode cL_law 656 = .ok (.ireturn, 1) := by decide +kernel
theorem dL_law_657 : decode cL_law 657 = .ok (.iload 5, 2) := by decide +kernel
theorem dL_law_659 : decode cL_law 659 = .ok (.ifCond .ne 22, 3) := by decide +kernel
theorem dL_law_662 : decode cL_law 662 = .ok (.aload_n 3, 1) := by decide +kernel
theorem dL_law_663 : decode cL_law 663 = .ok (.iconst 0, 1) := by decide +kernel
theorem dL_law_664 : decode cL_law 664 = .ok (.laload, 1) := by decide +kernel
theorem dL_law_665 : decode cL_law 665 = .ok (.iload 6, 2) := by decide +kernel
theorem dL_law_667 : decode cL_law 667 = .ok (.ifCond .eq 7, 3) := by decide +kernel
theorem dL_law_670 : decode cL_law 670 = .ok (.lconst 1, 1) := by decide +kernel
theorem dL_law_671 : decode cL_law 671 = .ok (.goto 4, 3) := by decide +kernel
theorem dL_law_674 : decode cL_law 674 = .ok (.lconst 0, 1) := by decide +kernel
theorem dL_law_675 : decode cL_law 675 = .ok (.lcmp, 1) := by decide +kernel
theorem dL_law_676 : decode cL_law 676 = .ok (.ifCond .eq 5, 3) := by decide +kernel
theorem dL_law_679 : decode cL_law 679 = .ok (.iconst 0, 1) := by decide +kernel
theorem dL_law_680 : decode cL_law 680 = .ok (.ireturn, 1) := by decide +kernel
theorem dL_law_681 : decode cL_law 681 = .ok (.goto 1076, 3) := by decide +kernel
theorem dL_law_684 : decode cL_law 684 = .ok (.aload_n 1, 1) := by decide +kernel
theorem dL_law_685 : decode cL_law 685 = .ok (.invokevirtual 131, 3) := by decide +kernel
theorem dL_law_688 : decode cL_law 688 = .ok (.aload_n 2, 1) := by decide +kernel
theorem dL_law_689 : decode cL_law 689 = .ok (.invokevirtual 134, 3) := by decide +kernel
theorem dL_law_692 : decode cL_law 692 = .ok (.if_icmp .eq 1065, 3) := by decide +kernel
theorem dL_law_695 : decode cL_law 695 = .ok (.iconst 0, 1) := by decide +kernel
theorem dL_law_696 : decode cL_law 696 = .ok (.ireturn, 1) := by decide +kernel
theorem dL_law_697 : decode cL_law 697 = .ok (.aload_n 1, 1) := by decide +kernel
theorem dL_law_698 : decode cL_law 698 = .ok (.aload_n 0, 1) := by decide +kernel
theorem dL_law_699 : decode cL_law 699 = .ok (.iload 4, 2) := by decide +kernel
theorem dL_law_701 : decode cL_law 701 = .ok (.iconst 1, 1) := by decide +kernel
theorem dL_law_702 : decode cL_law 702 = .ok (.iadd, 1) := by decide +kernel
theorem dL_law_703 : decode cL_law 703 = .ok (.iaload, 1) := by decide +kernel
theorem dL_law_704 : decode cL_law 704 = .ok (.aload_n 0, 1) := by decide +kernel
theorem dL_law_705 : decode cL_law 705 = .ok (.iload 4, 2) := by decide +kernel
theorem dL_law_707 : decode cL_law 707 = .ok (.iconst 2, 1) := by decide +kernel
theorem dL_law_708 : decode cL_law 708 = .ok (.iadd, 1) := by decide +kernel
theorem dL_law_709 : decode cL_law 709 = .ok (.iaload, 1) := by decide +kernel
theorem dL_law_710 : decode cL_law 710 = .ok (.aload_n 3, 1) := by decide +kernel
theorem dL_law_711 : decode cL_law 711 = .ok (.invokestatic 135, 3) := by decide +kernel
theorem dL_law_714 : decode cL_law 714 = .ok (.istore 5, 2) := by decide +kernel
theorem dL_law_716 : decode cL_law 716 = .ok (.aload_n 2, 1) := by decide +kernel
theorem dL_law_717 : decode cL_law 717 = .ok (.aload_n 0, 1) := by decide +kernel
theorem dL_law_718 : decode cL_law 718 = .ok (.iload 4, 2) := by decide +kernel
theorem dL_law_720 : decode cL_law 720 = .ok (.iconst 1, 1) := by decide +kernel
theorem dL_law_721 : decode cL_law 721 = .ok (.iadd, 1) := by decide +kernel
theorem dL_law_722 : decode cL_law 722 = .ok (.iaload, 1) := by decide +kernel
theorem dL_law_723 : decode cL_law 723 = .ok (.aload_n 0, 1) := by decide +kernel
theorem dL_law_724 : decode cL_law 724 = .ok (.iload 4, 2) := by decide +kernel
theorem dL_law_726 : decode cL_law 726 = .ok (.iconst 2, 1) := by decide +kernel
theorem dL_law_727 : decode cL_law 727 = .ok (.iadd, 1) := by decide +kernel
theorem dL_law_728 : decode cL_law 728 = .ok (.iaload, 1) := by decide +kernel
theorem dL_law_729 : decode cL_law 729 = .ok (.invokevirtual 137, 3) := by decide +kernel
theorem dL_law_732 : decode cL_law 732 = .ok (.istore 6, 2) := by decide +kernel
theorem dL_law_734 : decode cL_law 734 = .ok (.aload_n 2, 1) := by decide +kernel
theorem dL_law_735 : decode cL_law 735 = .ok (.invokevirtual 103, 3) := by decide +kernel
theorem dL_law_738 : decode cL_law 738 = .ok (.iload 5, 2) := by decide +kernel
theorem dL_law_740 : decode cL_law 740 = .ok (.if_icmp .eq 5, 3) := by decide +kernel
theorem dL_law_743 : decode cL_law 743 = .ok (.iconst 0, 1) := by decide +kernel
theorem dL_law_744 : decode cL_law 744 = .ok (.ireturn, 1) := by decide +kernel
theorem dL_law_745 : decode cL_law 745 = .ok (.iload 5, 2) := by decide +kernel
theorem dL_law_747 : decode cL_law 747 = .ok (.ifCond .ne 15, 3) := by decide +kernel
theorem dL_law_750 : decode cL_law 750 = .ok (.aload_n 3, 1) := by decide +kernel
theorem dL_law_751 : decode cL_law 751 = .ok (.iconst 0, 1) := by decide +kernel
theorem dL_law_752 : decode cL_law 752 = .ok (.laload, 1) := by decide +kernel
theorem dL_law_753 : decode cL_law 753 = .ok (.iload 6, 2) := by decide +kernel
theorem dL_law_755 : decode cL_law 755 = .ok (.i2l, 1) := by decide +kernel
theorem dL_law_756 : decode cL_law 756 = .ok (.lcmp, 1) := by decide +kernel
theorem dL_law_757 : decode cL_law 757 = .ok (.ifCond .eq 5, 3) := by decide +kernel
theorem dL_law_760 : decode cL_law 760 = .ok (.iconst 0, 1) := by decide +kernel
theorem dL_law_761 : decode cL_law 761 = .ok (.ireturn, 1) := by decide +kernel
theorem dL_law_762 : decode cL_law 762 = .ok (.goto 995, 3) := by decide +kernel
theorem dL_law_765 : decode cL_law 765 = .ok (.aload_n 1, 1) := by decide +kernel
theorem dL_law_766 : decode cL_law 766 = .ok (.aload_n 0, 1) := by decide +kernel
theorem dL_law_767 : decode cL_law 767 = .ok (.iload 4, 2) := by decide +kernel
theorem dL_law_769 : decode cL_law 769 = .ok (.iconst 1, 1) := by decide +kernel
theorem dL_law_770 : decode cL_law 770 = .ok (.iadd, 1) := by decide +kernel
theorem dL_law_771 : decode cL_law 771 = .ok (.iaload, 1) := by decide +kernel
theorem dL_law_772 : decode cL_law 772 = .ok (.aload_n 3, 1) := by decide +kernel
theorem dL_law_773 : decode cL_law 773 = .ok (.invokestatic 138, 3) := by decide +kernel
theorem dL_law_776 : decode cL_law 776 = .ok (.istore 5, 2) := by decide +kernel
theorem dL_law_778 : decode cL_law 778 = .ok (.aload_n 2, 1) := by decide +kernel
theorem dL_law_779 : decode cL_law 779 = .ok (.aload_n 0, 1) := by decide +kernel
theorem dL_law_780 : decode cL_law 780 = .ok (.iload 4, 2) := by decide +kernel
theorem dL_law_782 : decode cL_law 782 = .ok (.iconst 1, 1) := by decide +kernel
theorem dL_law_783 : decode cL_law 783 = .ok (.iadd, 1) := by decide +kernel
theorem dL_law_784 : decode cL_law 784 = .ok (.iaload, 1) := by decide +kernel
theorem dL_law_785 : decode cL_law 785 = .ok (.invokevirtual 140, 3) := by decide +kernel
theorem dL_law_788 : decode cL_law 788 = .ok (.istore 6, 2) := by decide +kernel
theorem dL_law_790 : decode cL_law 790 = .ok (.aload_n 2, 1) := by decide +kernel
theorem dL_law_791 : decode cL_law 791 = .ok (.invokevirtual 103, 3) := by decide +kernel
theorem dL_law_794 : decode cL_law 794 = .ok (.iload 5, 2) := by decide +kernel
theorem dL_law_796 : decode cL_law 796 = .ok (.if_icmp .eq 5, 3) := by decide +kernel
theorem dL_law_799 : decode cL_law 799 = .ok (.iconst 0, 1) := by decide +kernel
theorem dL_law_800 : decode cL_law 800 = .ok (.ireturn, 1) := by decide +kernel
theorem dL_law_801 : decode cL_law 801 = .ok (.iload 5, 2) := by decide +kernel
theorem dL_law_803 : decode cL_law 803 = .ok (.ifCond .ne 15, 3) := by decide +kernel
theorem dL_law_806 : decode cL_law 806 = .ok (.aload_n 3, 1) := by decide +kernel
theorem dL_law_807 : decode cL_law 807 = .ok (.iconst 0, 1) := by decide +kernel
theorem dL_law_808 : decode cL_law 808 = .ok (.laload, 1) := by decide +kernel
theorem dL_law_809 : decode cL_law 809 = .ok (.iload 6, 2) := by decide +kernel
theorem dL_law_811 : decode cL_law 811 = .ok (.i2l, 1) := by decide +kernel
theorem dL_law_812 : decode cL_law 812 = .ok (.lcmp, 1) := by decide +kernel
theorem dL_law_813 : decode cL_law 813 = .ok (.ifCond .eq 5, 3) := by decide +kernel
theorem dL_law_816 : decode cL_law 816 = .ok (.iconst 0, 1) := by decide +kernel
theorem dL_law_817 : decode cL_law 817 = .ok (.ireturn, 1) := by decide +kernel
theorem dL_law_818 : decode cL_law 818 = .ok (.goto 939, 3) := by decide +kernel
theorem dL_law_821 : decode cL_law 821 = .ok (.aload_n 1, 1) := by decide +kernel
theorem dL_law_822 : decode cL_law 822 = .ok (.aload_n 0, 1) := by decide +kernel
theorem dL_law_823 : decode cL_law 823 = .ok (.iload 4, 2) := by decide +kernel
theorem dL_law_825 : decode cL_law 825 = .ok (.iconst 1, 1) := by decide +kernel
theorem dL_law_826 : decode cL_law 826 = .ok (.iadd, 1) := by decide +kernel
theorem dL_law_827 : decode cL_law 827 = .ok (.iaload, 1) := by decide +kernel
theorem dL_law_828 : decode cL_law 828 = .ok (.aload_n 0, 1) := by decide +kernel
theorem dL_law_829 : decode cL_law 829 = .ok (.iload 4, 2) := by decide +kernel
theorem dL_law_831 : decode cL_law 831 = .ok (.iconst 2, 1) := by decide +kernel
theorem dL_law_832 : decode cL_law 832 = .ok (.iadd, 1) := by decide +kernel
theorem dL_law_833 : decode cL_law 833 = .ok (.iaload, 1) := by decide +kernel
theorem dL_law_834 : decode cL_law 834 = .ok (.aload_n 3, 1) := by decide +kernel
theorem dL_law_835 : decode cL_law 835 = .ok (.invokestatic 141, 3) := by decide +kernel
theorem dL_law_838 : decode cL_law 838 = .ok (.istore 5, 2) := by decide +kernel
theorem dL_law_840 : decode cL_law 840 = .ok (.aload_n 2, 1) := by decide +kernel
theorem dL_law_841 : decode cL_law 841 = .ok (.aload_n 0, 1) := by decide +kernel
theorem dL_law_842 : decode cL_law 842 = .ok (.iload 4, 2) := by decide +kernel
theorem dL_law_844 : decode cL_law 844 = .ok (.iconst 1, 1) := by decide +kernel
theorem dL_law_845 : decode cL_law 845 = .ok (.iadd, 1) := by decide +kernel
theorem dL_law_846 : decode cL_law 846 = .ok (.iaload, 1) := by decide +kernel
theorem dL_law_847 : decode cL_law 847 = .ok (.aload_n 0, 1) := by decide +kernel
theorem dL_law_848 : decode cL_law 848 = .ok (.iload 4, 2) := by decide +kernel
theorem dL_law_850 : decode cL_law 850 = .ok (.iconst 2, 1) := by decide +kernel
theorem dL_law_851 : decode cL_law 851 = .ok (.iadd, 1) := by decide +kernel
theorem dL_law_852 : decode cL_law 852 = .ok (.iaload, 1) := by decide +kernel
theorem dL_law_853 : decode cL_law 853 = .ok (.invokevirtual 143, 3) := by decide +kernel
theorem dL_law_856 : decode cL_law 856 = .ok (.istore 6, 2) := by decide +kernel
theorem dL_law_858 : decode cL_law 858 = .ok (.aload_n 2, 1) := by decide +kernel
theorem dL_law_859 : decode cL_law 859 = .ok (.invokevirtual 103, 3) := by decide +kernel
theorem dL_law_862 : decode cL_law 862 = .ok (.iload 5, 2) := by decide +kernel
theorem dL_law_864 : decode cL_law 864 = .ok (.if_icmp .eq 5, 3) := by decide +kernel
theorem dL_law_867 : decode cL_law 867 = .ok (.iconst 0, 1) := by decide +kernel
theorem dL_law_868 : decode cL_law 868 = .ok (.ireturn, 1) := by decide +kernel
theorem dL_law_869 : decode cL_law 869 = .ok (.iload 5, 2) := by decide +kernel
theorem dL_law_871 : decode cL_law 871 = .ok (.ifCond .ne 15, 3) := by decide +kernel
theorem dL_law_874 : decode cL_law 874 = .ok (.aload_n 3, 1) := by decide +kernel
theorem dL_law_875 : decode cL_law 875 = .ok (.iconst 0, 1) := by decide +kernel
theorem dL_law_876 : decode cL_law 876 = .ok (.laload, 1) := by decide +kernel
theorem dL_law_877 : decode cL_law 877 = .ok (.iload 6, 2) := by decide +kernel
theorem dL_law_879 : decode cL_law 879 = .ok (.i2l, 1) := by decide +kernel
theorem dL_law_880 : decode cL_law 880 = .ok (.lcmp, 1) := by decide +kernel
theorem dL_law_881 : decode cL_law 881 = .ok (.ifCond .eq 5, 3) := by decide +kernel
theorem dL_law_884 : decode cL_law 884 = .ok (.iconst 0, 1) := by decide +kernel
theorem dL_law_885 : decode cL_law 885 = .ok (.ireturn, 1) := by decide +kernel
theorem dL_law_886 : decode cL_law 886 = .ok (.goto 871, 3) := by decide +kernel
theorem dL_law_889 : decode cL_law 889 = .ok (.aload_n 1, 1) := by decide +kernel
theorem dL_law_890 : decode cL_law 890 = .ok (.aload_n 0, 1) := by decide +kernel
theorem dL_law_891 : decode cL_law 891 = .ok (.iload 4, 2) := by decide +kernel
theorem dL_law_893 : decode cL_law 893 = .ok (.iconst 1, 1) := by decide +kernel
theorem dL_law_894 : decode cL_law 894 = .ok (.iadd, 1) := by decide +kernel
theorem dL_law_895 : decode cL_law 895 = .ok (.iaload, 1) := by decide +kernel
theorem dL_law_896 : decode cL_law 896 = .ok (.aload_n 0, 1) := by decide +kernel
theorem dL_law_897 : decode cL_law 897 = .ok (.iload 4, 2) := by decide +kernel
theorem dL_law_899 : decode cL_law 899 = .ok (.iconst 2, 1) := by decide +kernel
theorem dL_law_900 : decode cL_law 900 = .ok (.iadd, 1) := by decide +kernel
theorem dL_law_901 : decode cL_law 901 = .ok (.iaload, 1) := by decide +kernel
theorem dL_law_902 : decode cL_law 902 = .ok (.aload_n 3, 1) := by decide +kernel
theorem dL_law_903 : decode cL_law 903 = .ok (.invokestatic 144, 3) := by decide +kernel
theorem dL_law_906 : decode cL_law 906 = .ok (.istore 5, 2) := by decide +kernel
theorem dL_law_908 : decode cL_law 908 = .ok (.aload_n 2, 1) := by decide +kernel
theorem dL_law_909 : decode cL_law 909 = .ok (.aload_n 0, 1) := by decide +kernel
theorem dL_law_910 : decode cL_law 910 = .ok (.iload 4, 2) := by decide +kernel
theorem dL_law_912 : decode cL_law 912 = .ok (.iconst 1, 1) := by decide +kernel
theorem dL_law_913 : decode cL_law 913 = .ok (.iadd, 1) := by decide +kernel
theorem dL_law_914 : decode cL_law 914 = .ok (.iaload, 1) := by decide +kernel
theorem dL_law_915 : decode cL_law 915 = .ok (.aload_n 0, 1) := by decide +kernel
theorem dL_law_916 : decode cL_law 916 = .ok (.iload 4, 2) := by decide +kernel
theorem dL_law_918 : decode cL_law 918 = .ok (.iconst 2, 1) := by decide +kernel
theorem dL_law_919 : decode cL_law 919 = .ok (.iadd, 1) := by decide +kernel
theorem dL_law_920 : decode cL_law 920 = .ok (.iaload, 1) := by decide +kernel
theorem dL_law_921 : decode cL_law 921 = .ok (.invokevirtual 146, 3) := by decide +kernel
theorem dL_law_924 : decode cL_law 924 = .ok (.istore 6, 2) := by decide +kernel
theorem dL_law_926 : decode cL_law 926 = .ok (.aload_n 2, 1) := by decide +kernel
theorem dL_law_927 : decode cL_law 927 = .ok (.invokevirtual 103, 3) := by decide +kernel
theorem dL_law_930 : decode cL_law 930 = .ok (.iload 5, 2) := by decide +kernel
theorem dL_law_932 : decode cL_law 932 = .ok (.if_icmp .eq 5, 3) := by decide +kernel
theorem dL_law_935 : decode cL_law 935 = .ok (.iconst 0, 1) := by decide +kernel
theorem dL_law_936 : decode cL_law 936 = .ok (.ireturn, 1) := by decide +kernel
theorem dL_law_937 : decode cL_law 937 = .ok (.iload 5, 2) := by decide +kernel
theorem dL_law_939 : decode cL_law 939 = .ok (.ifCond .ne 15, 3) := by decide +kernel
theorem dL_law_942 : decode cL_law 942 = .ok (.aload_n 3, 1) := by decide +kernel
theorem dL_law_943 : decode cL_law 943 = .ok (.iconst 0, 1) := by decide +kernel
theorem dL_law_944 : decode cL_law 944 = .ok (.laload, 1) := by decide +kernel
theorem dL_law_945 : decode cL_law 945 = .ok (.iload 6, 2) := by decide +kernel
theorem dL_law_947 : decode cL_law 947 = .ok (.i2l, 1) := by decide +kernel
theorem dL_law_948 : decode cL_law 948 = .ok (.lcmp, 1) := by decide +kernel
theorem dL_law_949 : decode cL_law 949 = .ok (.ifCond .eq 5, 3) := by decide +kernel
theorem dL_law_952 : decode cL_law 952 = .ok (.iconst 0, 1) := by decide +kernel
theorem dL_law_953 : decode cL_law 953 = .ok (.ireturn, 1) := by decide +kernel
theorem dL_law_954 : decode cL_law 954 = .ok (.goto 803, 3) := by decide +kernel
theorem dL_law_957 : decode cL_law 957 = .ok (.aload_n 1, 1) := by decide +kernel
theorem dL_law_958 : decode cL_law 958 = .ok (.aload_n 0, 1) := by decide +kernel
theorem dL_law_959 : decode cL_law 959 = .ok (.iload 4, 2) := by decide +kernel
theorem dL_law_961 : decode cL_law 961 = .ok (.iconst 1, 1) := by decide +kernel
theorem dL_law_962 : decode cL_law 962 = .ok (.iadd, 1) := by decide +kernel
theorem dL_law_963 : decode cL_law 963 = .ok (.iaload, 1) := by decide +kernel
theorem dL_law_964 : decode cL_law 964 = .ok (.aload_n 0, 1) := by decide +kernel
theorem dL_law_965 : decode cL_law 965 = .ok (.iload 4, 2) := by decide +kernel
theorem dL_law_967 : decode cL_law 967 = .ok (.iconst 2, 1) := by decide +kernel
theorem dL_law_968 : decode cL_law 968 = .ok (.iadd, 1) := by decide +kernel
theorem dL_law_969 : decode cL_law 969 = .ok (.iaload, 1) := by decide +kernel
theorem dL_law_970 : decode cL_law 970 = .ok (.aload_n 3, 1) := by decide +kernel
theorem dL_law_971 : decode cL_law 971 = .ok (.invokestatic 147, 3) := by decide +kernel
theorem dL_law_974 : decode cL_law 974 = .ok (.istore 5, 2) := by decide +kernel
theorem dL_law_976 : decode cL_law 976 = .ok (.aload_n 2, 1) := by decide +kernel
theorem dL_law_977 : decode cL_law 977 = .ok (.aload_n 0, 1) := by decide +kernel
theorem dL_law_978 : decode cL_law 978 = .ok (.iload 4, 2) := by decide +kernel
theorem dL_law_980 : decode cL_law 980 = .ok (.iconst 1, 1) := by decide +kernel
theorem dL_law_981 : decode cL_law 981 = .ok (.iadd, 1) := by decide +kernel
theorem dL_law_982 : decode cL_law 982 = .ok (.iaload, 1) := by decide +kernel
theorem dL_law_983 : decode cL_law 983 = .ok (.aload_n 0, 1) := by decide +kernel
theorem dL_law_984 : decode cL_law 984 = .ok (.iload 4, 2) := by decide +kernel
theorem dL_law_986 : decode cL_law 986 = .ok (.iconst 2, 1) := by decide +kernel
theorem dL_law_987 : decode cL_law 987 = .ok (.iadd, 1) := by decide +kernel
theorem dL_law_988 : decode cL_law 988 = .ok (.iaload, 1) := by decide +kernel
theorem dL_law_989 : decode cL_law 989 = .ok (.invokevirtual 149, 3) := by decide +kernel
theorem dL_law_992 : decode cL_law 992 = .ok (.istore 6, 2) := by decide +kernel
theorem dL_law_994 : decode cL_law 994 = .ok (.aload_n 2, 1) := by decide +kernel
theorem dL_law_995 : decode cL_law 995 = .ok (.invokevirtual 103, 3) := by decide +kernel
theorem dL_law_998 : decode cL_law 998 = .ok (.iload 5, 2) := by decide +kernel
theorem dL_law_1000 : decode cL_law 1000 = .ok (.if_icmp .eq 5, 3) := by decide +kernel
theorem dL_law_1003 : decode cL_law 1003 = .ok (.iconst 0, 1) := by decide +kernel
theorem dL_law_1004 : decode cL_law 1004 = .ok (.ireturn, 1) := by decide +kernel
theorem dL_law_1005 : decode cL_law 1005 = .ok (.iload 5, 2) := by decide +kernel
theorem dL_law_1007 : decode cL_law 1007 = .ok (.ifCond .ne 15, 3) := by decide +kernel
theorem dL_law_1010 : decode cL_law 1010 = .ok (.aload_n 3, 1) := by decide +kernel
theorem dL_law_1011 : decode cL_law 1011 = .ok (.iconst 0, 1) := by decide +kernel
theorem dL_law_1012 : decode cL_law 1012 = .ok (.laload, 1) := by decide +kernel
theorem dL_law_1013 : decode cL_law 1013 = .ok (.iload 6, 2) := by decide +kernel
theorem dL_law_1015 : decode cL_law 1015 = .ok (.i2l, 1) := by decide +kernel
theorem dL_law_1016 : decode cL_law 1016 = .ok (.lcmp, 1) := by decide +kernel
theorem dL_law_1017 : decode cL_law 1017 = .ok (.ifCond .eq 5, 3) := by decide +kernel
theorem dL_law_1020 : decode cL_law 1020 = .ok (.iconst 0, 1) := by decide +kernel
theorem dL_law_1021 : decode cL_law 1021 = .ok (.ireturn, 1) := by decide +kernel
theorem dL_law_1022 : decode cL_law 1022 = .ok (.goto 735, 3) := by decide +kernel
theorem dL_law_1025 : decode cL_law 1025 = .ok (.aload_n 1, 1) := by decide +kernel
theorem dL_law_1026 : decode cL_law 1026 = .ok (.aload_n 0, 1) := by decide +kernel
theorem dL_law_1027 : decode cL_law 1027 = .ok (.iload 4, 2) := by decide +kernel
theorem dL_law_1029 : decode cL_law 1029 = .ok (.iconst 1, 1) := by decide +kernel
theorem dL_law_1030 : decode cL_law 1030 = .ok (.iadd, 1) := by decide +kernel
theorem dL_law_1031 : decode cL_law 1031 = .ok (.iaload, 1) := by decide +kernel
theorem dL_law_1032 : decode cL_law 1032 = .ok (.aload_n 3, 1) := by decide +kernel
theorem dL_law_1033 : decode cL_law 1033 = .ok (.invokestatic 150, 3) := by decide +kernel
theorem dL_law_1036 : decode cL_law 1036 = .ok (.istore 5, 2) := by decide +kernel
theorem dL_law_1038 : decode cL_law 1038 = .ok (.aload_n 2, 1) := by decide +kernel
theorem dL_law_1039 : decode cL_law 1039 = .ok (.aload_n 0, 1) := by decide +kernel
theorem dL_law_1040 : decode cL_law 1040 = .ok (.iload 4, 2) := by decide +kernel
theorem dL_law_1042 : decode cL_law 1042 = .ok (.iconst 1, 1) := by decide +kernel
theorem dL_law_1043 : decode cL_law 1043 = .ok (.iadd, 1) := by decide +kernel
theorem dL_law_1044 : decode cL_law 1044 = .ok (.iaload, 1) := by decide +kernel
theorem dL_law_1045 : decode cL_law 1045 = .ok (.invokevirtual 152, 3) := by decide +kernel
theorem dL_law_1048 : decode cL_law 1048 = .ok (.istore 6, 2) := by decide +kernel
theorem dL_law_1050 : decode cL_law 1050 = .ok (.aload_n 2, 1) := by decide +kernel
theorem dL_law_1051 : decode cL_law 1051 = .ok (.invokevirtual 103, 3) := by decide +kernel
theorem dL_law_1054 : decode cL_law 1054 = .ok (.iload 5, 2) := by decide +kernel
theorem dL_law_1056 : decode cL_law 1056 = .ok (.if_icmp .eq 5, 3) := by decide +kernel
theorem dL_law_1059 : decode cL_law 1059 = .ok (.iconst 0, 1) := by decide +kernel
theorem dL_law_1060 : decode cL_law 1060 = .ok (.ireturn, 1) := by decide +kernel
theorem dL_law_1061 : decode cL_law 1061 = .ok (.iload 5, 2) := by decide +kernel
theorem dL_law_1063 : decode cL_law 1063 = .ok (.ifCond .ne 15, 3) := by decide +kernel
theorem dL_law_1066 : decode cL_law 1066 = .ok (.aload_n 3, 1) := by decide +kernel
theorem dL_law_1067 : decode cL_law 1067 = .ok (.iconst 0, 1) := by decide +kernel
theorem dL_law_1068 : decode cL_law 1068 = .ok (.laload, 1) := by decide +kernel
theorem dL_law_1069 : decode cL_law 1069 = .ok (.iload 6, 2) := by decide +kernel
theorem dL_law_1071 : decode cL_law 1071 = .ok (.i2l, 1) := by decide +kernel
theorem dL_law_1072 : decode cL_law 1072 = .ok (.lcmp, 1) := by decide +kernel
theorem dL_law_1073 : decode cL_law 1073 = .ok (.ifCond .eq 5, 3) := by decide +kernel
theorem dL_law_1076 : decode cL_law 1076 = .ok (.iconst 0, 1) := by decide +kernel
theorem dL_law_1077 : decode cL_law 1077 = .ok (.ireturn, 1) := by decide +kernel
theorem dL_law_1078 : decode cL_law 1078 = .ok (.goto 679, 3) := by decide +kernel
theorem dL_law_1081 : decode cL_law 1081 = .ok (.aload_n 1, 1) := by decide +kernel
theorem dL_law_1082 : decode cL_law 1082 = .ok (.aload_n 0, 1) := by decide +kernel
theorem dL_law_1083 : decode cL_law 1083 = .ok (.iload 4, 2) := by decide +kernel
theorem dL_law_1085 : decode cL_law 1085 = .ok (.iconst 1, 1) := by decide +kernel
theorem dL_law_1086 : decode cL_law 1086 = .ok (.iadd, 1) := by decide +kernel
theorem dL_law_1087 : decode cL_law 1087 = .ok (.iaload, 1) := by decide +kernel
theorem dL_law_1088 : decode cL_law 1088 = .ok (.aload_n 3, 1) := by decide +kernel
theorem dL_law_1089 : decode cL_law 1089 = .ok (.invokestatic 153, 3) := by decide +kernel
theorem dL_law_1092 : decode cL_law 1092 = .ok (.istore 5, 2) := by decide +kernel
theorem dL_law_1094 : decode cL_law 1094 = .ok (.aload_n 2, 1) := by decide +kernel
theorem dL_law_1095 : decode cL_law 1095 = .ok (.aload_n 0, 1) := by decide +kernel
theorem dL_law_1096 : decode cL_law 1096 = .ok (.iload 4, 2) := by decide +kernel
theorem dL_law_1098 : decode cL_law 1098 = .ok (.iconst 1, 1) := by decide +kernel
theorem dL_law_1099 : decode cL_law 1099 = .ok (.iadd, 1) := by decide +kernel
theorem dL_law_1100 : decode cL_law 1100 = .ok (.iaload, 1) := by decide +kernel
theorem dL_law_1101 : decode cL_law 1101 = .ok (.invokevirtual 155, 3) := by decide +kernel
theorem dL_law_1104 : decode cL_law 1104 = .ok (.istore 6, 2) := by decide +kernel
theorem dL_law_1106 : decode cL_law 1106 = .ok (.aload_n 2, 1) := by decide +kernel
theorem dL_law_1107 : decode cL_law 1107 = .ok (.invokevirtual 103, 3) := by decide +kernel
theorem dL_law_1110 : decode cL_law 1110 = .ok (.iload 5, 2) := by decide +kernel
theorem dL_law_1112 : decode cL_law 1112 = .ok (.if_icmp .eq 5, 3) := by decide +kernel
theorem dL_law_1115 : decode cL_law 1115 = .ok (.iconst 0, 1) := by decide +kernel
theorem dL_law_1116 : decode cL_law 1116 = .ok (.ireturn, 1) := by decide +kernel
theorem dL_law_1117 : decode cL_law 1117 = .ok (.iload 5, 2) := by decide +kernel
theorem dL_law_1119 : decode cL_law 1119 = .ok (.ifCond .ne 15, 3) := by decide +kernel
theorem dL_law_1122 : decode cL_law 1122 = .ok (.aload_n 3, 1) := by decide +kernel
theorem dL_law_1123 : decode cL_law 1123 = .ok (.iconst 0, 1) := by decide +kernel
theorem dL_law_1124 : decode cL_law 1124 = .ok (.laload, 1) := by decide +kernel
theorem dL_law_1125 : decode cL_law 1125 = .ok (.iload 6, 2) := by decide +kernel
theorem dL_law_1127 : decode cL_law 1127 = .ok (.i2l, 1) := by decide +kernel
theorem dL_law_1128 : decode cL_law 1128 = .ok (.lcmp, 1) := by decide +kernel
theorem dL_law_1129 : decode cL_law 1129 = .ok (.ifCond .eq 5, 3) := by decide +kernel
theorem dL_law_1132 : decode cL_law 1132 = .ok (.iconst 0, 1) := by decide +kernel
theorem dL_law_1133 : decode cL_law 1133 = .ok (.ireturn, 1) := by decide +kernel
theorem dL_law_1134 : decode cL_law 1134 = .ok (.goto 623, 3) := by decide +kernel
theorem dL_law_1137 : decode cL_law 1137 = .ok (.aload_n 1, 1) := by decide +kernel
theorem dL_law_1138 : decode cL_law 1138 = .ok (.aload_n 0, 1) := by decide +kernel
theorem dL_law_1139 : decode cL_law 1139 = .ok (.iload 4, 2) := by decide +kernel
theorem dL_law_1141 : decode cL_law 1141 = .ok (.iconst 1, 1) := by decide +kernel
theorem dL_law_1142 : decode cL_law 1142 = .ok (.iadd, 1) := by decide +kernel
theorem dL_law_1143 : decode cL_law 1143 = .ok (.iaload, 1) := by decide +kernel
theorem dL_law_1144 : decode cL_law 1144 = .ok (.aload_n 3, 1) := by decide +kernel
theorem dL_law_1145 : decode cL_law 1145 = .ok (.invokestatic 156, 3) := by decide +kernel
theorem dL_law_1148 : decode cL_law 1148 = .ok (.istore 5, 2) := by decide +kernel
theorem dL_law_1150 : decode cL_law 1150 = .ok (.aload_n 2, 1) := by decide +kernel
theorem dL_law_1151 : decode cL_law 1151 = .ok (.aload_n 0, 1) := by decide +kernel
theorem dL_law_1152 : decode cL_law 1152 = .ok (.iload 4, 2) := by decide +kernel
theorem dL_law_1154 : decode cL_law 1154 = .ok (.iconst 1, 1) := by decide +kernel
theorem dL_law_1155 : decode cL_law 1155 = .ok (.iadd, 1) := by decide +kernel
theorem dL_law_1156 : decode cL_law 1156 = .ok (.iaload, 1) := by decide +kernel
theorem dL_law_1157 : decode cL_law 1157 = .ok (.invokevirtual 158, 3) := by decide +kernel
theorem dL_law_1160 : decode cL_law 1160 = .ok (.istore 6, 2) := by decide +kernel
theorem dL_law_1162 : decode cL_law 1162 = .ok (.aload_n 2, 1) := by decide +kernel
theorem dL_law_1163 : decode cL_law 1163 = .ok (.invokevirtual 103, 3) := by decide +kernel
theorem dL_law_1166 : decode cL_law 1166 = .ok (.iload 5, 2) := by decide +kernel
theorem dL_law_1168 : decode cL_law 1168 = .ok (.if_icmp .eq 5, 3) := by decide +kernel
theorem dL_law_1171 : decode cL_law 1171 = .ok (.iconst 0, 1) := by decide +kernel
theorem dL_law_1172 : decode cL_law 1172 = .ok (.ireturn, 1) := by decide +kernel
theorem dL_law_1173 : decode cL_law 1173 = .ok (.iload 5, 2) := by decide +kernel
theorem dL_law_1175 : decode cL_law 1175 = .ok (.ifCond .ne 15, 3) := by decide +kernel
theorem dL_law_1178 : decode cL_law 1178 = .ok (.aload_n 3, 1) := by decide +kernel
theorem dL_law_1179 : decode cL_law 1179 = .ok (.iconst 0, 1) := by decide +kernel
theorem dL_law_1180 : decode cL_law 1180 = .ok (.laload, 1) := by decide +kernel
theorem dL_law_1181 : decode cL_law 1181 = .ok (.iload 6, 2) := by decide +kernel
theorem dL_law_1183 : decode cL_law 1183 = .ok (.i2l, 1) := by decide +kernel
theorem dL_law_1184 : decode cL_law 1184 = .ok (.lcmp, 1) := by decide +kernel
theorem dL_law_1185 : decode cL_law 1185 = .ok (.ifCond .eq 5, 3) := by decide +kernel
theorem dL_law_1188 : decode cL_law 1188 = .ok (.iconst 0, 1) := by decide +kernel
theorem dL_law_1189 : decode cL_law 1189 = .ok (.ireturn, 1) := by decide +kernel
theorem dL_law_1190 : decode cL_law 1190 = .ok (.goto 567, 3) := by decide +kernel
theorem dL_law_1193 : decode cL_law 1193 = .ok (.aload_n 1, 1) := by decide +kernel
theorem dL_law_1194 : decode cL_law 1194 = .ok (.aload_n 0, 1) := by decide +kernel
theorem dL_law_1195 : decode cL_law 1195 = .ok (.iload 4, 2) := by decide +kernel
theorem dL_law_1197 : decode cL_law 1197 = .ok (.iconst 1, 1) := by decide +kernel
theorem dL_law_1198 : decode cL_law 1198 = .ok (.iadd, 1) := by decide +kernel
theorem dL_law_1199 : decode cL_law 1199 = .ok (.iaload, 1) := by decide +kernel
theorem dL_law_1200 : decode cL_law 1200 = .ok (.aload_n 3, 1) := by decide +kernel
theorem dL_law_1201 : decode cL_law 1201 = .ok (.invokestatic 159, 3) := by decide +kernel
theorem dL_law_1204 : decode cL_law 1204 = .ok (.istore 5, 2) := by decide +kernel
theorem dL_law_1206 : decode cL_law 1206 = .ok (.aload_n 2, 1) := by decide +kernel
theorem dL_law_1207 : decode cL_law 1207 = .ok (.aload_n 0, 1) := by decide +kernel
theorem dL_law_1208 : decode cL_law 1208 = .ok (.iload 4, 2) := by decide +kernel
theorem dL_law_1210 : decode cL_law 1210 = .ok (.iconst 1, 1) := by decide +kernel
theorem dL_law_1211 : decode cL_law 1211 = .ok (.iadd, 1) := by decide +kernel
theorem dL_law_1212 : decode cL_law 1212 = .ok (.iaload, 1) := by decide +kernel
theorem dL_law_1213 : decode cL_law 1213 = .ok (.invokevirtual 161, 3) := by decide +kernel
theorem dL_law_1216 : decode cL_law 1216 = .ok (.istore 6, 2) := by decide +kernel
theorem dL_law_1218 : decode cL_law 1218 = .ok (.aload_n 2, 1) := by decide +kernel
theorem dL_law_1219 : decode cL_law 1219 = .ok (.invokevirtual 103, 3) := by decide +kernel
theorem dL_law_1222 : decode cL_law 1222 = .ok (.iload 5, 2) := by decide +kernel
theorem dL_law_1224 : decode cL_law 1224 = .ok (.if_icmp .eq 5, 3) := by decide +kernel
theorem dL_law_1227 : decode cL_law 1227 = .ok (.iconst 0, 1) := by decide +kernel
theorem dL_law_1228 : decode cL_law 1228 = .ok (.ireturn, 1) := by decide +kernel
theorem dL_law_1229 : decode cL_law 1229 = .ok (.iload 5, 2) := by decide +kernel
theorem dL_law_1231 : decode cL_law 1231 = .ok (.ifCond .ne 15, 3) := by decide +kernel
theorem dL_law_1234 : decode cL_law 1234 = .ok (.aload_n 3, 1) := by decide +kernel
theorem dL_law_1235 : decode cL_law 1235 = .ok (.iconst 0, 1) := by decide +kernel
theorem dL_law_1236 : decode cL_law 1236 = .ok (.laload, 1) := by decide +kernel
theorem dL_law_1237 : decode cL_law 1237 = .ok (.iload 6, 2) := by decide +kernel
theorem dL_law_1239 : decode cL_law 1239 = .ok (.i2l, 1) := by decide +kernel
theorem dL_law_1240 : decode cL_law 1240 = .ok (.lcmp, 1) := by decide +kernel
theorem dL_law_1241 : decode cL_law 1241 = .ok (.ifCond .eq 5, 3) := by decide +kernel
theorem dL_law_1244 : decode cL_law 1244 = .ok (.iconst 0, 1) := by decide +kernel
theorem dL_law_1245 : decode cL_law 1245 = .ok (.ireturn, 1) := by decide +kernel
theorem dL_law_1246 : decode cL_law 1246 = .ok (.goto 511, 3) := by decide +kernel
theorem dL_law_1249 : decode cL_law 1249 = .ok (.aload_n 1, 1) := by decide +kernel
theorem dL_law_1250 : decode cL_law 1250 = .ok (.invokevirtual 162, 3) := by decide +kernel
theorem dL_law_1253 : decode cL_law 1253 = .ok (.aload_n 2, 1) := by decide +kernel
theorem dL_law_1254 : decode cL_law 1254 = .ok (.invokevirtual 165, 3) := by decide +kernel
theorem dL_law_1257 : decode cL_law 1257 = .ok (.if_icmp .eq 500, 3) := by decide +kernel
theorem dL_law_1260 : decode cL_law 1260 = .ok (.iconst 0, 1) := by decide +kernel
theorem dL_law_1261 : decode cL_law 1261 = .ok (.ireturn, 1) := by decide +kernel
theorem dL_law_1262 : decode cL_law 1262 = .ok (.aload_n 1, 1) := by decide +kernel
theorem dL_law_1263 : decode cL_law 1263 = .ok (.aload_n 0, 1) := by decide +kernel
theorem dL_law_1264 : decode cL_law 1264 = .ok (.iload 4, 2) := by decide +kernel
theorem dL_law_1266 : decode cL_law 1266 = .ok (.iconst 1, 1) := by decide +kernel
theorem dL_law_1267 : decode cL_law 1267 = .ok (.iadd, 1) := by decide +kernel
theorem dL_law_1268 : decode cL_law 1268 = .ok (.iaload, 1) := by decide +kernel
theorem dL_law_1269 : decode cL_law 1269 = .ok (.aload_n 0, 1) := by decide +kernel
theorem dL_law_1270 : decode cL_law 1270 = .ok (.iload 4, 2) := by decide +kernel
theorem dL_law_1272 : decode cL_law 1272 = .ok (.iconst 2, 1) := by decide +kernel
theorem dL_law_1273 : decode cL_law 1273 = .ok (.iadd, 1) := by decide +kernel
theorem dL_law_1274 : decode cL_law 1274 = .ok (.iaload, 1) := by decide +kernel
theorem dL_law_1275 : decode cL_law 1275 = .ok (.aload_n 3, 1) := by decide +kernel
theorem dL_law_1276 : decode cL_law 1276 = .ok (.invokestatic 166, 3) := by decide +kernel
theorem dL_law_1279 : decode cL_law 1279 = .ok (.istore 5, 2) := by decide +kernel
theorem dL_law_1281 : decode cL_law 1281 = .ok (.aload_n 2, 1) := by decide +kernel
theorem dL_law_1282 : decode cL_law 1282 = .ok (.aload_n 0, 1) := by decide +kernel
theorem dL_law_1283 : decode cL_law 1283 = .ok (.iload 4, 2) := by decide +kernel
theorem dL_law_1285 : decode cL_law 1285 = .ok (.iconst 1, 1) := by decide +kernel
theorem dL_law_1286 : decode cL_law 1286 = .ok (.iadd, 1) := by decide +kernel
theorem dL_law_1287 : decode cL_law 1287 = .ok (.iaload, 1) := by decide +kernel
theorem dL_law_1288 : decode cL_law 1288 = .ok (.aload_n 0, 1) := by decide +kernel
theorem dL_law_1289 : decode cL_law 1289 = .ok (.iload 4, 2) := by decide +kernel
theorem dL_law_1291 : decode cL_law 1291 = .ok (.iconst 2, 1) := by decide +kernel
theorem dL_law_1292 : decode cL_law 1292 = .ok (.iadd, 1) := by decide +kernel
theorem dL_law_1293 : decode cL_law 1293 = .ok (.iaload, 1) := by decide +kernel
theorem dL_law_1294 : decode cL_law 1294 = .ok (.invokevirtual 168, 3) := by decide +kernel
theorem dL_law_1297 : decode cL_law 1297 = .ok (.istore 6, 2) := by decide +kernel
theorem dL_law_1299 : decode cL_law 1299 = .ok (.aload_n 2, 1) := by decide +kernel
theorem dL_law_1300 : decode cL_law 1300 = .ok (.invokevirtual 103, 3) := by decide +kernel
theorem dL_law_1303 : decode cL_law 1303 = .ok (.iload 5, 2) := by decide +kernel
theorem dL_law_1305 : decode cL_law 1305 = .ok (.if_icmp .eq 5, 3) := by decide +kernel
theorem dL_law_1308 : decode cL_law 1308 = .ok (.iconst 0, 1) := by decide +kernel
theorem dL_law_1309 : decode cL_law 1309 = .ok (.ireturn, 1) := by decide +kernel
theorem dL_law_1310 : decode cL_law 1310 = .ok (.iload 5, 2) := by decide +kernel
theorem dL_law_1312 : decode cL_law 1312 = .ok (.ifCond .ne 15, 3) := by decide +kernel
theorem dL_law_1315 : decode cL_law 1315 = .ok (.aload_n 3, 1) := by decide +kernel
theorem dL_law_1316 : decode cL_law 1316 = .ok (.iconst 0, 1) := by decide +kernel
theorem dL_law_1317 : decode cL_law 1317 = .ok (.laload, 1) := by decide +kernel
theorem dL_law_1318 : decode cL_law 1318 = .ok (.iload 6, 2) := by decide +kernel
theorem dL_law_1320 : decode cL_law 1320 = .ok (.i2l, 1) := by decide +kernel
theorem dL_law_1321 : decode cL_law 1321 = .ok (.lcmp, 1) := by decide +kernel
theorem dL_law_1322 : decode cL_law 1322 = .ok (.ifCond .eq 5, 3) := by decide +kernel
theorem dL_law_1325 : decode cL_law 1325 = .ok (.iconst 0, 1) := by decide +kernel
theorem dL_law_1326 : decode cL_law 1326 = .ok (.ireturn, 1) := by decide +kernel
theorem dL_law_1327 : decode cL_law 1327 = .ok (.goto 430, 3) := by decide +kernel
theorem dL_law_1330 : decode cL_law 1330 = .ok (.aload_n 1, 1) := by decide +kernel
theorem dL_law_1331 : decode cL_law 1331 = .ok (.aload_n 0, 1) := by decide +kernel
theorem dL_law_1332 : decode cL_law 1332 = .ok (.iload 4, 2) := by decide +kernel
theorem dL_law_1334 : decode cL_law 1334 = .ok (.iconst 1, 1) := by decide +kernel
theorem dL_law_1335 : decode cL_law 1335 = .ok (.iadd, 1) := by decide +kernel
theorem dL_law_1336 : decode cL_law 1336 = .ok (.iaload, 1) := by decide +kernel
theorem dL_law_1337 : decode cL_law 1337 = .ok (.aload_n 0, 1) := by decide +kernel
theorem dL_law_1338 : decode cL_law 1338 = .ok (.iload 4, 2) := by decide +kernel
theorem dL_law_1340 : decode cL_law 1340 = .ok (.iconst 2, 1) := by decide +kernel
theorem dL_law_1341 : decode cL_law 1341 = .ok (.iadd, 1) := by decide +kernel
theorem dL_law_1342 : decode cL_law 1342 = .ok (.iaload, 1) := by decide +kernel
theorem dL_law_1343 : decode cL_law 1343 = .ok (.aload_n 3, 1) := by decide +kernel
theorem dL_law_1344 : decode cL_law 1344 = .ok (.invokestatic 169, 3) := by decide +kernel
theorem dL_law_1347 : decode cL_law 1347 = .ok (.istore 5, 2) := by decide +kernel
theorem dL_law_1349 : decode cL_law 1349 = .ok (.aload_n 2, 1) := by decide +kernel
theorem dL_law_1350 : decode cL_law 1350 = .ok (.aload_n 0, 1) := by decide +kernel
theorem dL_law_1351 : decode cL_law 1351 = .ok (.iload 4, 2) := by decide +kernel
theorem dL_law_1353 : decode cL_law 1353 = .ok (.iconst 1, 1) := by decide +kernel
theorem dL_law_1354 : decode cL_law 1354 = .ok (.iadd, 1) := by decide +kernel
theorem dL_law_1355 : decode cL_law 1355 = .ok (.iaload, 1) := by decide +kernel
theorem dL_law_1356 : decode cL_law 1356 = .ok (.aload_n 0, 1) := by decide +kernel
theorem dL_law_1357 : decode cL_law 1357 = .ok (.iload 4, 2) := by decide +kernel
theorem dL_law_1359 : decode cL_law 1359 = .ok (.iconst 2, 1) := by decide +kernel
theorem dL_law_1360 : decode cL_law 1360 = .ok (.iadd, 1) := by decide +kernel
theorem dL_law_1361 : decode cL_law 1361 = .ok (.iaload, 1) := by decide +kernel
theorem dL_law_1362 : decode cL_law 1362 = .ok (.invokevirtual 171, 3) := by decide +kernel
theorem dL_law_1365 : decode cL_law 1365 = .ok (.istore 6, 2) := by decide +kernel
theorem dL_law_1367 : decode cL_law 1367 = .ok (.aload_n 2, 1) := by decide +kernel
theorem dL_law_1368 : decode cL_law 1368 = .ok (.invokevirtual 103, 3) := by decide +kernel
theorem dL_law_1371 : decode cL_law 1371 = .ok (.iload 5, 2) := by decide +kernel
theorem dL_law_1373 : decode cL_law 1373 = .ok (.if_icmp .eq 5, 3) := by decide +kernel
theorem dL_law_1376 : decode cL_law 1376 = .ok (.iconst 0, 1) := by decide +kernel
theorem dL_law_1377 : decode cL_law 1377 = .ok (.ireturn, 1) := by decide +kernel
theorem dL_law_1378 : decode cL_law 1378 = .ok (.iload 5, 2) := by decide +kernel
theorem dL_law_1380 : decode cL_law 1380 = .ok (.ifCond .ne 22, 3) := by decide +kernel
theorem dL_law_1383 : decode cL_law 1383 = .ok (.aload_n 3, 1) := by decide +kernel
theorem dL_law_1384 : decode cL_law 1384 = .ok (.iconst 0, 1) := by decide +kernel
theorem dL_law_1385 : decode cL_law 1385 = .ok (.laload, 1) := by decide +kernel
theorem dL_law_1386 : decode cL_law 1386 = .ok (.iload 6, 2) := by decide +kernel
theorem dL_law_1388 : decode cL_law 1388 = .ok (.ifCond .eq 7, 3) := by decide +kernel
theorem dL_law_1391 : decode cL_law 1391 = .ok (.lconst 1, 1) := by decide +kernel
theorem dL_law_1392 : decode cL_law 1392 = .ok (.goto 4, 3) := by decide +kernel
theorem dL_law_1395 : decode cL_law 1395 = .ok (.lconst 0, 1) := by decide +kernel
theorem dL_law_1396 : decode cL_law 1396 = .ok (.lcmp, 1) := by decide +kernel
theorem dL_law_1397 : decode cL_law 1397 = .ok (.ifCond .eq 5, 3) := by decide +kernel
theorem dL_law_1400 : decode cL_law 1400 = .ok (.iconst 0, 1) := by decide +kernel
theorem dL_law_1401 : decode cL_law 1401 = .ok (.ireturn, 1) := by decide +kernel
theorem dL_law_1402 : decode cL_law 1402 = .ok (.goto 355, 3) := by decide +kernel
theorem dL_law_1405 : decode cL_law 1405 = .ok (.aload_n 1, 1) := by decide +kernel
theorem dL_law_1406 : decode cL_law 1406 = .ok (.aload_n 0, 1) := by decide +kernel
theorem dL_law_1407 : decode cL_law 1407 = .ok (.iload 4, 2) := by decide +kernel
theorem dL_law_1409 : decode cL_law 1409 = .ok (.iconst 1, 1) := by decide +kernel
theorem dL_law_1410 : decode cL_law 1410 = .ok (.iadd, 1) := by decide +kernel
theorem dL_law_1411 : decode cL_law 1411 = .ok (.iaload, 1) := by decide +kernel
theorem dL_law_1412 : decode cL_law 1412 = .ok (.aload_n 3, 1) := by decide +kernel
theorem dL_law_1413 : decode cL_law 1413 = .ok (.invokestatic 172, 3) := by decide +kernel
theorem dL_law_1416 : decode cL_law 1416 = .ok (.istore 5, 2) := by decide +kernel
theorem dL_law_1418 : decode cL_law 1418 = .ok (.aload_n 2, 1) := by decide +kernel
theorem dL_law_1419 : decode cL_law 1419 = .ok (.aload_n 0, 1) := by decide +kernel
theorem dL_law_1420 : decode cL_law 1420 = .ok (.iload 4, 2) := by decide +kernel
theorem dL_law_1422 : decode cL_law 1422 = .ok (.iconst 1, 1) := by decide +kernel
theorem dL_law_1423 : decode cL_law 1423 = .ok (.iadd, 1) := by decide +kernel
theorem dL_law_1424 : decode cL_law 1424 = .ok (.iaload, 1) := by decide +kernel
theorem dL_law_1425 : decode cL_law 1425 = .ok (.invokevirtual 174, 3) := by decide +kernel
theorem dL_law_1428 : decode cL_law 1428 = .ok (.istore 6, 2) := by decide +kernel
theorem dL_law_1430 : decode cL_law 1430 = .ok (.aload_n 2, 1) := by decide +kernel
theorem dL_law_1431 : decode cL_law 1431 = .ok (.invokevirtual 103, 3) := by decide +kernel
theorem dL_law_1434 : decode cL_law 1434 = .ok (.iload 5, 2) := by decide +kernel
theorem dL_law_1436 : decode cL_law 1436 = .ok (.if_icmp .eq 5, 3) := by decide +kernel
theorem dL_law_1439 : decode cL_law 1439 = .ok (.iconst 0, 1) := by decide +kernel
theorem dL_law_1440 : decode cL_law 1440 = .ok (.ireturn, 1) := by decide +kernel
theorem dL_law_1441 : decode cL_law 1441 = .ok (.iload 5, 2) := by decide +kernel
theorem dL_law_1443 : decode cL_law 1443 = .ok (.ifCond .ne 15, 3) := by decide +kernel
theorem dL_law_1446 : decode cL_law 1446 = .ok (.aload_n 3, 1) := by decide +kernel
theorem dL_law_1447 : decode cL_law 1447 = .ok (.iconst 0, 1) := by decide +kernel
theorem dL_law_1448 : decode cL_law 1448 = .ok (.laload, 1) := by decide +kernel
theorem dL_law_1449 : decode cL_law 1449 = .ok (.iload 6, 2) := by decide +kernel
theorem dL_law_1451 : decode cL_law 1451 = .ok (.i2l, 1) := by decide +kernel
theorem dL_law_1452 : decode cL_law 1452 = .ok (.lcmp, 1) := by decide +kernel
theorem dL_law_1453 : decode cL_law 1453 = .ok (.ifCond .eq 5, 3) := by decide +kernel
theorem dL_law_1456 : decode cL_law 1456 = .ok (.iconst 0, 1) := by decide +kernel
theorem dL_law_1457 : decode cL_law 1457 = .ok (.ireturn, 1) := by decide +kernel
theorem dL_law_1458 : decode cL_law 1458 = .ok (.goto 299, 3) := by decide +kernel
theorem dL_law_1461 : decode cL_law 1461 = .ok (.aload_n 1, 1) := by decide +kernel
theorem dL_law_1462 : decode cL_law 1462 = .ok (.aload_n 0, 1) := by decide +kernel
theorem dL_law_1463 : decode cL_law 1463 = .ok (.iload 4, 2) := by decide +kernel
theorem dL_law_1465 : decode cL_law 1465 = .ok (.iconst 1, 1) := by decide +kernel
theorem dL_law_1466 : decode cL_law 1466 = .ok (.iadd, 1) := by decide +kernel
theorem dL_law_1467 : decode cL_law 1467 = .ok (.iaload, 1) := by decide +kernel
theorem dL_law_1468 : decode cL_law 1468 = .ok (.aload_n 3, 1) := by decide +kernel
theorem dL_law_1469 : decode cL_law 1469 = .ok (.invokestatic 175, 3) := by decide +kernel
theorem dL_law_1472 : decode cL_law 1472 = .ok (.istore 5, 2) := by decide +kernel
theorem dL_law_1474 : decode cL_law 1474 = .ok (.aload_n 2, 1) := by decide +kernel
theorem dL_law_1475 : decode cL_law 1475 = .ok (.aload_n 0, 1) := by decide +kernel
theorem dL_law_1476 : decode cL_law 1476 = .ok (.iload 4, 2) := by decide +kernel
theorem dL_law_1478 : decode cL_law 1478 = .ok (.iconst 1, 1) := by decide +kernel
theorem dL_law_1479 : decode cL_law 1479 = .ok (.iadd, 1) := by decide +kernel
theorem dL_law_1480 : decode cL_law 1480 = .ok (.iaload, 1) := by decide +kernel
theorem dL_law_1481 : decode cL_law 1481 = .ok (.invokevirtual 177, 3) := by decide +kernel
theorem dL_law_1484 : decode cL_law 1484 = .ok (.istore 6, 2) := by decide +kernel
theorem dL_law_1486 : decode cL_law 1486 = .ok (.aload_n 2, 1) := by decide +kernel
theorem dL_law_1487 : decode cL_law 1487 = .ok (.invokevirtual 103, 3) := by decide +kernel
theorem dL_law_1490 : decode cL_law 1490 = .ok (.iload 5, 2) := by decide +kernel
theorem dL_law_1492 : decode cL_law 1492 = .ok (.if_icmp .eq 5, 3) := by decide +kernel
theorem dL_law_1495 : decode cL_law 1495 = .ok (.iconst 0, 1) := by decide +kernel
theorem dL_law_1496 : decode cL_law 1496 = .ok (.ireturn, 1) := by decide +kernel
theorem dL_law_1497 : decode cL_law 1497 = .ok (.iload 5, 2) := by decide +kernel
theorem dL_law_1499 : decode cL_law 1499 = .ok (.ifCond .ne 15, 3) := by decide +kernel
theorem dL_law_1502 : decode cL_law 1502 = .ok (.aload_n 3, 1) := by decide +kernel
theorem dL_law_1503 : decode cL_law 1503 = .ok (.iconst 0, 1) := by decide +kernel
theorem dL_law_1504 : decode cL_law 1504 = .ok (.laload, 1) := by decide +kernel
theorem dL_law_1505 : decode cL_law 1505 = .ok (.iload 6, 2) := by decide +kernel
theorem dL_law_1507 : decode cL_law 1507 = .ok (.i2l, 1) := by decide +kernel
theorem dL_law_1508 : decode cL_law 1508 = .ok (.lcmp, 1) := by decide +kernel
theorem dL_law_1509 : decode cL_law 1509 = .ok (.ifCond .eq 5, 3) := by decide +kernel
theorem dL_law_1512 : decode cL_law 1512 = .ok (.iconst 0, 1) := by decide +kernel
theorem dL_law_1513 : decode cL_law 1513 = .ok (.ireturn, 1) := by decide +kernel
theorem dL_law_1514 : decode cL_law 1514 = .ok (.goto 243, 3) := by decide +kernel
theorem dL_law_1517 : decode cL_law 1517 = .ok (.aload_n 1, 1) := by decide +kernel
theorem dL_law_1518 : decode cL_law 1518 = .ok (.aload_n 0, 1) := by decide +kernel
theorem dL_law_1519 : decode cL_law 1519 = .ok (.iload 4, 2) := by decide +kernel
theorem dL_law_1521 : decode cL_law 1521 = .ok (.iconst 1, 1) := by decide +kernel
theorem dL_law_1522 : decode cL_law 1522 = .ok (.iadd, 1) := by decide +kernel
theorem dL_law_1523 : decode cL_law 1523 = .ok (.iaload, 1) := by decide +kernel
theorem dL_law_1524 : decode cL_law 1524 = .ok (.aload_n 0, 1) := by decide +kernel
theorem dL_law_1525 : decode cL_law 1525 = .ok (.iload 4, 2) := by decide +kernel
theorem dL_law_1527 : decode cL_law 1527 = .ok (.iconst 2, 1) := by decide +kernel
theorem dL_law_1528 : decode cL_law 1528 = .ok (.iadd, 1) := by decide +kernel
theorem dL_law_1529 : decode cL_law 1529 = .ok (.iaload, 1) := by decide +kernel
theorem dL_law_1530 : decode cL_law 1530 = .ok (.aload_n 3, 1) := by decide +kernel
theorem dL_law_1531 : decode cL_law 1531 = .ok (.invokestatic 178, 3) := by decide +kernel
theorem dL_law_1534 : decode cL_law 1534 = .ok (.istore 5, 2) := by decide +kernel
theorem dL_law_1536 : decode cL_law 1536 = .ok (.aload_n 2, 1) := by decide +kernel
theorem dL_law_1537 : decode cL_law 1537 = .ok (.aload_n 0, 1) := by decide +kernel
theorem dL_law_1538 : decode cL_law 1538 = .ok (.iload 4, 2) := by decide +kernel
theorem dL_law_1540 : decode cL_law 1540 = .ok (.iconst 1, 1) := by decide +kernel
theorem dL_law_1541 : decode cL_law 1541 = .ok (.iadd, 1) := by decide +kernel
theorem dL_law_1542 : decode cL_law 1542 = .ok (.iaload, 1) := by decide +kernel
theorem dL_law_1543 : decode cL_law 1543 = .ok (.aload_n 0, 1) := by decide +kernel
theorem dL_law_1544 : decode cL_law 1544 = .ok (.iload 4, 2) := by decide +kernel
theorem dL_law_1546 : decode cL_law 1546 = .ok (.iconst 2, 1) := by decide +kernel
theorem dL_law_1547 : decode cL_law 1547 = .ok (.iadd, 1) := by decide +kernel
theorem dL_law_1548 : decode cL_law 1548 = .ok (.iaload, 1) := by decide +kernel
theorem dL_law_1549 : decode cL_law 1549 = .ok (.invokevirtual 180, 3) := by decide +kernel
theorem dL_law_1552 : decode cL_law 1552 = .ok (.istore 6, 2) := by decide +kernel
theorem dL_law_1554 : decode cL_law 1554 = .ok (.aload_n 2, 1) := by decide +kernel
theorem dL_law_1555 : decode cL_law 1555 = .ok (.invokevirtual 103, 3) := by decide +kernel
theorem dL_law_1558 : decode cL_law 1558 = .ok (.iload 5, 2) := by decide +kernel
theorem dL_law_1560 : decode cL_law 1560 = .ok (.if_icmp .eq 5, 3) := by decide +kernel
theorem dL_law_1563 : decode cL_law 1563 = .ok (.iconst 0, 1) := by decide +kernel
theorem dL_law_1564 : decode cL_law 1564 = .ok (.ireturn, 1) := by decide +kernel
theorem dL_law_1565 : decode cL_law 1565 = .ok (.iload 5, 2) := by decide +kernel
theorem dL_law_1567 : decode cL_law 1567 = .ok (.ifCond .ne 15, 3) := by decide +kernel
theorem dL_law_1570 : decode cL_law 1570 = .ok (.aload_n 3, 1) := by decide +kernel
theorem dL_law_1571 : decode cL_law 1571 = .ok (.iconst 0, 1) := by decide +kernel
theorem dL_law_1572 : decode cL_law 1572 = .ok (.laload, 1) := by decide +kernel
theorem dL_law_1573 : decode cL_law 1573 = .ok (.iload 6, 2) := by decide +kernel
theorem dL_law_1575 : decode cL_law 1575 = .ok (.i2l, 1) := by decide +kernel
theorem dL_law_1576 : decode cL_law 1576 = .ok (.lcmp, 1) := by decide +kernel
theorem dL_law_1577 : decode cL_law 1577 = .ok (.ifCond .eq 5, 3) := by decide +kernel
theorem dL_law_1580 : decode cL_law 1580 = .ok (.iconst 0, 1) := by decide +kernel
theorem dL_law_1581 : decode cL_law 1581 = .ok (.ireturn, 1) := by decide +kernel
theorem dL_law_1582 : decode cL_law 1582 = .ok (.goto 175, 3) := by decide +kernel
theorem dL_law_1585 : decode cL_law 1585 = .ok (.aload_n 1, 1) := by decide +kernel
theorem dL_law_1586 : decode cL_law 1586 = .ok (.aload_n 0, 1) := by decide +kernel
theorem dL_law_1587 : decode cL_law 1587 = .ok (.iload 4, 2) := by decide +kernel
theorem dL_law_1589 : decode cL_law 1589 = .ok (.iconst 1, 1) := by decide +kernel
theorem dL_law_1590 : decode cL_law 1590 = .ok (.iadd, 1) := by decide +kernel
theorem dL_law_1591 : decode cL_law 1591 = .ok (.iaload, 1) := by decide +kernel
theorem dL_law_1592 : decode cL_law 1592 = .ok (.aload_n 0, 1) := by decide +kernel
theorem dL_law_1593 : decode cL_law 1593 = .ok (.iload 4, 2) := by decide +kernel
theorem dL_law_1595 : decode cL_law 1595 = .ok (.iconst 2, 1) := by decide +kernel
theorem dL_law_1596 : decode cL_law 1596 = .ok (.iadd, 1) := by decide +kernel
theorem dL_law_1597 : decode cL_law 1597 = .ok (.iaload, 1) := by decide +kernel
theorem dL_law_1598 : decode cL_law 1598 = .ok (.aload_n 0, 1) := by decide +kernel
theorem dL_law_1599 : decode cL_law 1599 = .ok (.iload 4, 2) := by decide +kernel
theorem dL_law_1601 : decode cL_law 1601 = .ok (.iconst 3, 1) := by decide +kernel
theorem dL_law_1602 : decode cL_law 1602 = .ok (.iadd, 1) := by decide +kernel
theorem dL_law_1603 : decode cL_law 1603 = .ok (.iaload, 1) := by decide +kernel
theorem dL_law_1604 : decode cL_law 1604 = .ok (.aload_n 3, 1) := by decide +kernel
theorem dL_law_1605 : decode cL_law 1605 = .ok (.invokestatic 181, 3) := by decide +kernel
theorem dL_law_1608 : decode cL_law 1608 = .ok (.istore 5, 2) := by decide +kernel
theorem dL_law_1610 : decode cL_law 1610 = .ok (.aload_n 2, 1) := by decide +kernel
theorem dL_law_1611 : decode cL_law 1611 = .ok (.aload_n 0, 1) := by decide +kernel
theorem dL_law_1612 : decode cL_law 1612 = .ok (.iload 4, 2) := by decide +kernel
theorem dL_law_1614 : decode cL_law 1614 = .ok (.iconst 1, 1) := by decide +kernel
theorem dL_law_1615 : decode cL_law 1615 = .ok (.iadd, 1) := by decide +kernel
theorem dL_law_1616 : decode cL_law 1616 = .ok (.iaload, 1) := by decide +kernel
theorem dL_law_1617 : decode cL_law 1617 = .ok (.aload_n 0, 1) := by decide +kernel
theorem dL_law_1618 : decode cL_law 1618 = .ok (.iload 4, 2) := by decide +kernel
theorem dL_law_1620 : decode cL_law 1620 = .ok (.iconst 2, 1) := by decide +kernel
theorem dL_law_1621 : decode cL_law 1621 = .ok (.iadd, 1) := by decide +kernel
theorem dL_law_1622 : decode cL_law 1622 = .ok (.iaload, 1) := by decide +kernel
theorem dL_law_1623 : decode cL_law 1623 = .ok (.aload_n 0, 1) := by decide +kernel
theorem dL_law_1624 : decode cL_law 1624 = .ok (.iload 4, 2) := by decide +kernel
theorem dL_law_1626 : decode cL_law 1626 = .ok (.iconst 3, 1) := by decide +kernel
theorem dL_law_1627 : decode cL_law 1627 = .ok (.iadd, 1) := by decide +kernel
theorem dL_law_1628 : decode cL_law 1628 = .ok (.iaload, 1) := by decide +kernel
theorem dL_law_1629 : decode cL_law 1629 = .ok (.invokevirtual 184, 3) := by decide +kernel
theorem dL_law_1632 : decode cL_law 1632 = .ok (.istore 6, 2) := by decide +kernel
theorem dL_law_1634 : decode cL_law 1634 = .ok (.aload_n 2, 1) := by decide +kernel
theorem dL_law_1635 : decode cL_law 1635 = .ok (.invokevirtual 103, 3) := by decide +kernel
theorem dL_law_1638 : decode cL_law 1638 = .ok (.iload 5, 2) := by decide +kernel
theorem dL_law_1640 : decode cL_law 1640 = .ok (.if_icmp .eq 5, 3) := by decide +kernel
theorem dL_law_1643 : decode cL_law 1643 = .ok (.iconst 0, 1) := by decide +kernel
theorem dL_law_1644 : decode cL_law 1644 = .ok (.ireturn, 1) := by decide +kernel
theorem dL_law_1645 : decode cL_law 1645 = .ok (.iload 5, 2) := by decide +kernel
theorem dL_law_1647 : decode cL_law 1647 = .ok (.ifCond .ne 15, 3) := by decide +kernel
theorem dL_law_1650 : decode cL_law 1650 = .ok (.aload_n 3, 1) := by decide +kernel
theorem dL_law_1651 : decode cL_law 1651 = .ok (.iconst 0, 1) := by decide +kernel
theorem dL_law_1652 : decode cL_law 1652 = .ok (.laload, 1) := by decide +kernel
theorem dL_law_1653 : decode cL_law 1653 = .ok (.iload 6, 2) := by decide +kernel
theorem dL_law_1655 : decode cL_law 1655 = .ok (.i2l, 1) := by decide +kernel
theorem dL_law_1656 : decode cL_law 1656 = .ok (.lcmp, 1) := by decide +kernel
theorem dL_law_1657 : decode cL_law 1657 = .ok (.ifCond .eq 5, 3) := by decide +kernel
theorem dL_law_1660 : decode cL_law 1660 = .ok (.iconst 0, 1) := by decide +kernel
theorem dL_law_1661 : decode cL_law 1661 = .ok (.ireturn, 1) := by decide +kernel
theorem dL_law_1662 : decode cL_law 1662 = .ok (.goto 95, 3) := by decide +kernel
theorem dL_law_1665 : decode cL_law 1665 = .ok (.aload_n 1, 1) := by decide +kernel
theorem dL_law_1666 : decode cL_law 1666 = .ok (.aload_n 0, 1) := by decide +kernel
theorem dL_law_1667 : decode cL_law 1667 = .ok (.iload 4, 2) := by decide +kernel
theorem dL_law_1669 : decode cL_law 1669 = .ok (.iconst 1, 1) := by decide +kernel
theorem dL_law_1670 : decode cL_law 1670 = .ok (.iadd, 1) := by decide +kernel
theorem dL_law_1671 : decode cL_law 1671 = .ok (.iaload, 1) := by decide +kernel
theorem dL_law_1672 : decode cL_law 1672 = .ok (.aload_n 0, 1) := by decide +kernel
theorem dL_law_1673 : decode cL_law 1673 = .ok (.iload 4, 2) := by decide +kernel
theorem dL_law_1675 : decode cL_law 1675 = .ok (.iconst 2, 1) := by decide +kernel
theorem dL_law_1676 : decode cL_law 1676 = .ok (.iadd, 1) := by decide +kernel
theorem dL_law_1677 : decode cL_law 1677 = .ok (.iaload, 1) := by decide +kernel
theorem dL_law_1678 : decode cL_law 1678 = .ok (.aload_n 0, 1) := by decide +kernel
theorem dL_law_1679 : decode cL_law 1679 = .ok (.iload 4, 2) := by decide +kernel
theorem dL_law_1681 : decode cL_law 1681 = .ok (.iconst 3, 1) := by decide +kernel
theorem dL_law_1682 : decode cL_law 1682 = .ok (.iadd, 1) := by decide +kernel
theorem dL_law_1683 : decode cL_law 1683 = .ok (.iaload, 1) := by decide +kernel
theorem dL_law_1684 : decode cL_law 1684 = .ok (.aload_n 0, 1) := by decide +kernel
theorem dL_law_1685 : decode cL_law 1685 = .ok (.iload 4, 2) := by decide +kernel
theorem dL_law_1687 : decode cL_law 1687 = .ok (.iconst 4, 1) := by decide +kernel
theorem dL_law_1688 : decode cL_law 1688 = .ok (.iadd, 1) := by decide +kernel
theorem dL_law_1689 : decode cL_law 1689 = .ok (.iaload, 1) := by decide +kernel
theorem dL_law_1690 : decode cL_law 1690 = .ok (.aload_n 3, 1) := by decide +kernel
theorem dL_law_1691 : decode cL_law 1691 = .ok (.invokestatic 185, 3) := by decide +kernel
theorem dL_law_1694 : decode cL_law 1694 = .ok (.istore 5, 2) := by decide +kernel
theorem dL_law_1696 : decode cL_law 1696 = .ok (.aload_n 2, 1) := by decide +kernel
theorem dL_law_1697 : decode cL_law 1697 = .ok (.aload_n 0, 1) := by decide +kernel
theorem dL_law_1698 : decode cL_law 1698 = .ok (.iload 4, 2) := by decide +kernel
theorem dL_law_1700 : decode cL_law 1700 = .ok (.iconst 1, 1) := by decide +kernel
theorem dL_law_1701 : decode cL_law 1701 = .ok (.iadd, 1) := by decide +kernel
theorem dL_law_1702 : decode cL_law 1702 = .ok (.iaload, 1) := by decide +kernel
theorem dL_law_1703 : decode cL_law 1703 = .ok (.aload_n 0, 1) := by decide +kernel
theorem dL_law_1704 : decode cL_law 1704 = .ok (.iload 4, 2) := by decide +kernel
theorem dL_law_1706 : decode cL_law 1706 = .ok (.iconst 2, 1) := by decide +kernel
theorem dL_law_1707 : decode cL_law 1707 = .ok (.iadd, 1) := by decide +kernel
theorem dL_law_1708 : decode cL_law 1708 = .ok (.iaload, 1) := by decide +kernel
theorem dL_law_1709 : decode cL_law 1709 = .ok (.aload_n 0, 1) := by decide +kernel
theorem dL_law_1710 : decode cL_law 1710 = .ok (.iload 4, 2) := by decide +kernel
theorem dL_law_1712 : decode cL_law 1712 = .ok (.iconst 3, 1) := by decide +kernel
theorem dL_law_1713 : decode cL_law 1713 = .ok (.iadd, 1) := by decide +kernel
theorem dL_law_1714 : decode cL_law 1714 = .ok (.iaload, 1) := by decide +kernel
theorem dL_law_1715 : decode cL_law 1715 = .ok (.aload_n 0, 1) := by decide +kernel
theorem dL_law_1716 : decode cL_law 1716 = .ok (.iload 4, 2) := by decide +kernel
theorem dL_law_1718 : decode cL_law 1718 = .ok (.iconst 4, 1) := by decide +kernel
theorem dL_law_1719 : decode cL_law 1719 = .ok (.iadd, 1) := by decide +kernel
theorem dL_law_1720 : decode cL_law 1720 = .ok (.iaload, 1) := by decide +kernel
theorem dL_law_1721 : decode cL_law 1721 = .ok (.invokevirtual 188, 3) := by decide +kernel
theorem dL_law_1724 : decode cL_law 1724 = .ok (.istore 6, 2) := by decide +kernel
theorem dL_law_1726 : decode cL_law 1726 = .ok (.aload_n 2, 1) := by decide +kernel
theorem dL_law_1727 : decode cL_law 1727 = .ok (.invokevirtual 103, 3) := by decide +kernel
theorem dL_law_1730 : decode cL_law 1730 = .ok (.iload 5, 2) := by decide +kernel
theorem dL_law_1732 : decode cL_law 1732 = .ok (.if_icmp .eq 5, 3) := by decide +kernel
theorem dL_law_1735 : decode cL_law 1735 = .ok (.iconst 0, 1) := by decide +kernel
theorem dL_law_1736 : decode cL_law 1736 = .ok (.ireturn, 1) := by decide +kernel
theorem dL_law_1737 : decode cL_law 1737 = .ok (.iload 5, 2) := by decide +kernel
theorem dL_law_1739 : decode cL_law 1739 = .ok (.ifCond .ne 15, 3) := by decide +kernel
theorem dL_law_1742 : decode cL_law 1742 = .ok (.aload_n 3, 1) := by decide +kernel
theorem dL_law_1743 : decode cL_law 1743 = .ok (.iconst 0, 1) := by decide +kernel
theorem dL_law_1744 : decode cL_law 1744 = .ok (.laload, 1) := by decide +kernel
theorem dL_law_1745 : decode cL_law 1745 = .ok (.iload 6, 2) := by decide +kernel
theorem dL_law_1747 : decode cL_law 1747 = .ok (.i2l, 1) := by decide +kernel
theorem dL_law_1748 : decode cL_law 1748 = .ok (.lcmp, 1) := by decide +kernel
theorem dL_law_1749 : decode cL_law 1749 = .ok (.ifCond .eq 5, 3) := by decide +kernel
theorem dL_law_1752 : decode cL_law 1752 = .ok (.iconst 0, 1) := by decide +kernel
theorem dL_law_1753 : decode cL_law 1753 = .ok (.ireturn, 1) := by decide +kernel
theorem dL_law_1754 : decode cL_law 1754 = .ok (.goto 3, 3) := by decide +kernel
theorem dL_law_1757 : decode cL_law 1757 = .ok (.iinc 4 7, 3) := by decide +kernel
theorem dL_law_1760 : decode cL_law 1760 = .ok (.goto (-1737), 3) := by decide +kernel
theorem dL_law_1763 : decode cL_law 1763 = .ok (.iconst 1, 1) := by decide +kernel
theorem dL_law_1764 : decode cL_law 1764 = .ok (.ireturn, 1) := by decide +kernel
end
section
/-! CORE: ints as integers; what stays of the environment; V: the machine at a place, over any heap that holds the world's cells -/
def zI (a : Int) : Int32 := Int32.ofInt a
abbrev vi (a : Int) : Value := .int (zI a)
def inR (a : Int) : Prop := -2147483648 ≤ a ∧ a < 2147483648
def bI (b : Bool) : Int := if b then 1 else 0
theorem zI_add (a b : Int) : zI a + zI b = zI (a + b) := (Int32.ofInt_add a b).symm
theorem zI_sub (a b : Int) : zI a - zI b = zI (a - b) := (Int32.ofInt_sub a b).symm
theorem zI_mul (a b : Int) : zI a * zI b = zI (a * b) := (Int32.ofInt_mul a b).symm
theorem zI_of (x : Int32) : zI x.toInt = x := Int32.ofInt_toInt x
theorem zI_inR (x : Int32) : inR x.toInt := ⟨by have := x.le_toInt; omega, by have := x.toInt_lt; omega⟩
theorem zI_toInt {a : Int} (h : inR a) : (zI a).toInt = a := Int32.toInt_ofInt_of_le (by have := h.1; omega) (by have := h.2; omega)
theorem zI_nat (k : Nat) : zI (k : Int) = nI k := Int32.ofInt_eq_ofNat
theorem zI_lt {a b : Int} (ha : inR a) (hb : inR b) : zI a < zI b ↔ a < b := by rw [Int32.lt_iff_toInt_lt, zI_toInt ha, zI_toInt hb]
theorem zI_le {a b : Int} (ha : inR a) (hb : inR b) : zI a ≤ zI b ↔ a ≤ b := by rw [Int32.le_iff_toInt_le, zI_toInt ha, zI_toInt hb]
theorem zI_eq {a b : Int} (ha : inR a) (hb : inR b) : zI a = zI b ↔ a = b := by rw [← Int32.toInt_inj, zI_toInt ha, zI_toInt hb]
theorem zI_0 : zI 0 = 0 := rfl
theorem inR_0 : inR 0 := ⟨by decide, by decide⟩
theorem zI_clamp {a : Int} (h : inR a) : (zI a).toNatClampNeg = a.toNat := by rw [Int32.toNatClampNeg, zI_toInt h]
theorem zI_in {a : Int} {N : Nat} (h : 0 ≤ a) (h2 : a < (N : Int)) (hN : N ≤ 65536) : vp_in (zI a) N := by
  have hr : inR a := ⟨by omega, by omega⟩
  refine vp_in_iff.mpr ⟨?_, ?_⟩ <;> rw [zI_toInt hr] <;> assumption
theorem zI_ne0 {a : Int} (h : inR a) (h0 : a ≠ 0) : ¬ zI a = 0 := fun z => h0 ((zI_eq h inR_0).mp z)
theorem zI_div {a b : Int} (ha : inR a) (ha0 : 0 ≤ a) (hb : inR b) (hb0 : 0 < b) : zI a / zI b = zI (a / b) := by
  apply Int32.toInt_inj.mp
  have hne : zI b ≠ -1 := fun z => by
    have h1 := congrArg Int32.toInt z
    rw [zI_toInt hb] at h1
    rw [h1] at hb0
    exact absurd hb0 (by decide)
  rw [Int32.toInt_div_of_ne_right _ _ hne, zI_toInt ha, zI_toInt hb, Int.tdiv_eq_ediv_of_nonneg ha0]
  have h1 : 0 ≤ a / b := Int.ediv_nonneg ha0 (Int.le_of_lt hb0)
  have h2 : a / b ≤ a := Int.ediv_le_self b ha0
  exact (zI_toInt ⟨by omega, by have := ha.2; omega⟩).symm
theorem zI_rem {a b : Int} (ha : inR a) (ha0 : 0 ≤ a) (hb : inR b) (hb0 : 0 < b) : zI a - zI a / zI b * zI b = zI (a % b) := by
  rw [zI_div ha ha0 hb hb0, zI_mul, zI_sub]
  have h := Int.emod_def a b
  rw [h, Int.mul_comm b]
theorem bI_01 (b : Bool) : bI b = 0 ∨ bI b = 1 := by cases b <;> simp [bI]
theorem bI_0 {b : Bool} : bI b = 0 ↔ b = false := by cases b <;> simp [bI]
theorem bI_1 {b : Bool} : bI b = 1 ↔ b = true := by cases b <;> simp [bI]
theorem inR_bI (b : Bool) : inR (bI b) := by cases b <;> exact ⟨by decide, by decide⟩

/-- the arrays' classes -/
def tyL (cy : Nat → ClassId) : List (ClassId × FieldType) := [(cy 0, .int), (cy 1, .boolean), (cy 2, .object "java/lang/Object"), (cy 3, .long)]
def strL : List (Nat × String) := [(186, "there is no such day"), (191, "the span ends before it begins"), (196, "an argument is out of range"), (66, "today would be above the last day"), (77, "there are as many rules as there can be"), (198, "there is no such rule"), (96, "a rule would require itself"), (194, "places are counted from 0"), (135, "the rule has no open duty"), (145, "the open duty is blocked"), (172, "no duty of the rule was ever finished")]
def xNest : List (String × Nat) := [(RX0, 26), (RX1, 59)]
def xDecl : List String := ["java/lang/RuntimeException", "java/lang/Exception", "java/lang/Throwable"]
def xCast : List String := ["java/lang/IndexOutOfBoundsException", "java/lang/IllegalArgumentException", "java/lang/IllegalStateException", "java/util/NoSuchElementException"]
/-- what of the launch is the same in every method: classes, statics that are only read, texts, words that no method's list holds -/
def Ev (D : va_G) (cy : Nat → ClassId) (sa : Nat → Addr) (A : Nat → Prop) (U : State) (H : Heap) : Prop :=
  va_K D vwCl (tyL cy) U ∧
  (vx_Zq Bundle.tN "UNASSIGNED_STACK" Bundle.steD A U H ∧ vx_Zq Bundle.tN "SUPPRESSED_SENTINEL" Bundle.listD A U H) ∧
  (∀ (i : Nat) (q : Nat × String), strL[i]? = some q → vk_R RX2 q.1 q.2 (sa i) U) ∧
  (∀ q ∈ xNest, va_Nw (.methodLinkNest q.1 q.2 yX2_isDay RX2) U) ∧
  (∀ q ∈ xDecl, va_Nw (.declares (Bundle.initS q)) U) ∧
  (∀ q ∈ xCast, va_Nw (.castable q q) U) ∧
  (va_Z RJx4a65c "DEFAULTCAPACITY_EMPTY_ELEMENTDATA" "[Ljava/lang/Object;" (.ref (sa 100)) A U H ∧ va_T (.object "java/lang/Object") (sa 100) 0 (fun _ => .null) A U H ∧ va_AO "java/lang/Object" U)
theorem Ev.warm {D : va_G} {cy : Nat → ClassId} {sa : Nat → Addr} {A : Nat → Prop} {s U : State} {H : Heap} (hW : s.WarmedH U.vm) (h : Ev D cy sa A s H) : Ev D cy sa A U H := by
  obtain ⟨h1, ⟨h2, h3⟩, h4, h5, h6, h7, h8, h9, h10⟩ := h
  have ha := hW.alike
  refine ⟨h1.moved ha, ⟨h2.moved ha, h3.moved ha⟩, fun i q hq => (h4 i q hq).warm hW, fun q hq => (h5 q hq).warmM hW, fun q hq => ?_, fun q hq => ?_, h8.moved ha, h9.moved ha, h10.moved ha⟩
  · have h := h6 q hq
    have e := Cond.declares_setVm (args := #[]) (s := s) ha (Bundle.initS q)
    exact va_tabs rfl (rfl : (s.setVm U.vm).vm = U.vm) (e.trans h)
  · have h := h7 q hq
    have e := Cond.castable_setVm (args := #[]) (s := s) ha q q
    exact va_tabs rfl (rfl : (s.setVm U.vm).vm = U.vm) (e.trans h)
theorem Ev.same {D : va_G} {cy : Nat → ClassId} {sa : Nat → Addr} {A : Nat → Prop} {s U : State} {H : Heap} (hv : U.vm = s.vm) (h : Ev D cy sa A s H) : Ev D cy sa A U H := by
  obtain ⟨h1, ⟨h2, h3⟩, h4, h5, h6, h7, h8, h9, h10⟩ := h
  have ha : s.vm.Alike U.vm := by rw [hv]; exact Vm.Alike.refl _
  exact ⟨h1.moved ha, ⟨h2.moved ha, h3.moved ha⟩, fun i q hq => (h4 i q hq).same hv, fun q hq => (h5 q hq).same rfl hv.symm, fun q hq => (h6 q hq).same rfl hv.symm, fun q hq => (h7 q hq).same rfl hv.symm, h8.moved ha, h9.moved ha, h10.moved ha⟩
theorem Ev.kept {D : va_G} {cy : Nat → ClassId} {sa : Nat → Addr} {A : Nat → Prop} {U : State} {H H1 : Heap} (hq : ∀ a : Nat, a < H.size → ¬ A a → H1[a]? = H[a]?) (h : Ev D cy sa A U H) : Ev D cy sa A U H1 := by
  obtain ⟨h1, ⟨h2, h3⟩, h4, h5, h6, h7, h8, h9, h10⟩ := h
  exact ⟨h1, ⟨h2.kept hq, h3.kept hq⟩, h4, h5, h6, h7, h8.kept hq, h9.kept hq, h10⟩
theorem Ev.narrow {D : va_G} {cy : Nat → ClassId} {sa : Nat → Addr} {A B : Nat → Prop} {U : State} {H : Heap} (hAB : ∀ q, B q → A q) (h : Ev D cy sa A U H) : Ev D cy sa B U H := by
  obtain ⟨h1, ⟨h2, h3⟩, h4, h5, h6, h7, h8, h9, h10⟩ := h
  exact ⟨h1, ⟨h2.narrow hAB, h3.narrow hAB⟩, h4, h5, h6, h7, h8.narrow hAB, h9.narrow hAB, h10⟩

/-- what is fixed in a method's walk -/
def Cx (D : va_G) (cy : Nat → ClassId) (sa : Nat → Addr) (own : String) (cc : ByteArray) (nL : Nat) (ret : Option FieldType) (A : Nat → Prop) (p : Program) (l : Launch) (s : State) (m : MethodId) (args : Array Value) (meth : Method) (c : Code) : Prop :=
  p.tables.exec = Jvm.exec ∧ c.code = cc ∧ c.maxLocals = nL ∧ s.vm.findClass own = some m.cls ∧ (∀ w ∈ GW, w.before args s = true) ∧ Ev D cy sa A s s.heap ∧ (∀ q : Nat, s.heap.size ≤ q → A q) ∧ meth.locks = false ∧ meth.sig.returnType = ret ∧ l.stackTraces = false
/-- the machine at pc, with the locals lc and the stack st, over every heap that holds the world ws: it comes to Q -/
def V (D : va_G) (nL : Nat) (A : Nat → Prop) (p : Program) (l : Launch) (e : Env) (R : Room) (s : State) (m : MethodId) (args : Array Value) (below : List Frame) (meth : Method) (c : Code) (Q : State → Prop) (k n : Nat) (ws : va_W) (pc : Nat) (lc : List (Nat × Value)) (st : List Value) : Prop :=
  ∀ (H : Heap) (locs : List Loc) (ls : Array Slot), va_P D vwCl ws H → va_D A ws → va_S A s.heap H locs → lv_has ls nL lc → W p l e R s m args below meth c H locs k n Q (F0 m pc ls st)
/-- the same, where E has been thrown there -/
def VX (D : va_G) (nL : Nat) (A : Nat → Prop) (p : Program) (l : Launch) (e : Env) (R : Room) (s : State) (m : MethodId) (args : Array Value) (below : List Frame) (meth : Method) (c : Code) (Q : State → Prop) (k n : Nat) (ws : va_W) (pc : Nat) (lc : List (Nat × Value)) (st : List Value) (E : String) : Prop :=
  ∀ (H : Heap) (locs : List Loc) (ls : Array Slot) (q : Addr) (ce : Cell), va_P D vwCl ws H → va_D A ws → va_S A s.heap H locs → lv_has ls nL lc → H[q]? = some ce → ce.vm = .none → s.vm.findClass E = some ce.cls → vx_W p l e R s m args below meth c H locs k n Q (F0 m pc ls st) q
end
section
section ROWS
variable {p : Program} {l : Launch} {e : Env} {R : Room} {s : State} {m : MethodId} {args : Array Value} {below : List Frame} {meth : Method} {c : Code}
variable {D : va_G} {cy : Nat → ClassId} {sa : Nat → Addr} {own : String} {cc : ByteArray} {nL : Nat} {ret : Option FieldType} {A : Nat → Prop} {Q : State → Prop} {k n : Nat} {ws : va_W} {pc : Nat} {lc : List (Nat × Value)} {st : List Value}
theorem Cx.exec (C : Cx D cy sa own cc nL ret A p l s m args meth c) : p.tables.exec = Jvm.exec := C.1
theorem Cx.bytes (C : Cx D cy sa own cc nL ret A p l s m args meth c) : c.code = cc := C.2.1
theorem Cx.locals (C : Cx D cy sa own cc nL ret A p l s m args meth c) : c.maxLocals = nL := C.2.2.1
theorem Cx.ow (C : Cx D cy sa own cc nL ret A p l s m args meth c) : s.vm.findClass own = some m.cls := C.2.2.2.1
theorem Cx.hts (C : Cx D cy sa own cc nL ret A p l s m args meth c) : ∀ w ∈ GW, w.before args s = true := C.2.2.2.2.1
theorem Cx.ev (C : Cx D cy sa own cc nL ret A p l s m args meth c) : Ev D cy sa A s s.heap := C.2.2.2.2.2.1
theorem Cx.free (C : Cx D cy sa own cc nL ret A p l s m args meth c) : ∀ q : Nat, s.heap.size ≤ q → A q := C.2.2.2.2.2.2.1
theorem Cx.locks (C : Cx D cy sa own cc nL ret A p l s m args meth c) : meth.locks = false := C.2.2.2.2.2.2.2.1
theorem Cx.re (C : Cx D cy sa own cc nL ret A p l s m args meth c) : meth.sig.returnType = ret := C.2.2.2.2.2.2.2.2.1
theorem Cx.trace (C : Cx D cy sa own cc nL ret A p l s m args meth c) : l.stackTraces = false := C.2.2.2.2.2.2.2.2.2

theorem V.iload_n (C : Cx D cy sa own cc nL ret A p l s m args meth c) {i : Fin 4} {x : Int} (d : decode cc pc = .ok (.iload_n i, 1)) (j : Nat) (h : lc[j]? = some ((i : Nat), vi x)) (kk : V D nL A p l e R s m args below meth c Q k n ws (pc + 1) lc (vi x :: st)) : V D nL A p l e R s m args below meth c Q k n ws pc lc st := by
  intro H locs ls hP hD hS hl
  exact lv_iload_n C.exec C.bytes d rfl (lv_at hl j h) (kk H locs ls hP hD hS hl)
theorem V.iload (C : Cx D cy sa own cc nL ret A p l s m args meth c) {i : Nat} {x : Int} (d : decode cc pc = .ok (.iload i, 2)) (j : Nat) (h : lc[j]? = some (i, vi x)) (kk : V D nL A p l e R s m args below meth c Q k n ws (pc + 2) lc (vi x :: st)) : V D nL A p l e R s m args below meth c Q k n ws pc lc st := by
  intro H locs ls hP hD hS hl
  exact lv_iload C.exec C.bytes d (lv_at hl j h) (kk H locs ls hP hD hS hl)
theorem V.istore_n (C : Cx D cy sa own cc nL ret A p l s m args meth c) {i : Fin 4} {x : Int} {lc2 : List (Nat × Value)} (d : decode cc pc = .ok (.istore_n i, 1)) (hn : (i : Nat) < nL) (h : ((i : Nat), Value.int (zI x)) :: lc.filter (fun q => !(q.1 == (i : Nat)) && !(q.1 + 1 == (i : Nat) && q.2.category == 2)) = lc2) (kk : V D nL A p l e R s m args below meth c Q k n ws (pc + 1) lc2 st) : V D nL A p l e R s m args below meth c Q k n ws pc lc (vi x :: st) := by
  intro H locs ls hP hD hS hl
  exact lv_istore_n C.exec C.bytes d rfl hl hn h (fun ls2 hl2 => kk H locs ls2 hP hD hS hl2)
theorem V.istore (C : Cx D cy sa own cc nL ret A p l s m args meth c) {i : Nat} {x : Int} {lc2 : List (Nat × Value)} (d : decode cc pc = .ok (.istore i, 2)) (hn : i < nL) (h : (i, Value.int (zI x)) :: lc.filter (fun q => !(q.1 == i) && !(q.1 + 1 == i && q.2.category == 2)) = lc2) (kk : V D nL A p l e R s m args below meth c Q k n ws (pc + 2) lc2 st) : V D nL A p l e R s m args below meth c Q k n ws pc lc (vi x :: st) := by
  intro H locs ls hP hD hS hl
  exact lv_istore C.exec C.bytes d hl hn h (fun ls2 hl2 => kk H locs ls2 hP hD hS hl2)
theorem V.aload_n (C : Cx D cy sa own cc nL ret A p l s m args meth c) {i : Fin 4} {x : Nat} (d : decode cc pc = .ok (.aload_n i, 1)) (j : Nat) (h : lc[j]? = some ((i : Nat), .ref x)) (kk : V D nL A p l e R s m args below meth c Q k n ws (pc + 1) lc (.ref x :: st)) : V D nL A p l e R s m args below meth c Q k n ws pc lc st := by
  intro H locs ls hP hD hS hl
  exact lv_aload_n C.exec C.bytes d rfl (lv_at hl j h) (kk H locs ls hP hD hS hl)
theorem V.aload (C : Cx D cy sa own cc nL ret A p l s m args meth c) {i : Nat} {x : Nat} (d : decode cc pc = .ok (.aload i, 2)) (j : Nat) (h : lc[j]? = some (i, .ref x)) (kk : V D nL A p l e R s m args below meth c Q k n ws (pc + 2) lc (.ref x :: st)) : V D nL A p l e R s m args below meth c Q k n ws pc lc st := by
  intro H locs ls hP hD hS hl
  exact lv_aload C.exec C.bytes d (lv_at hl j h) (kk H locs ls hP hD hS hl)
theorem V.astore_n (C : Cx D cy sa own cc nL ret A p l s m args meth c) {i : Fin 4} {x : Nat} {lc2 : List (Nat × Value)} (d : decode cc pc = .ok (.astore_n i, 1)) (hn : (i : Nat) < nL) (h : ((i : Nat), Value.ref x) :: lc.filter (fun q => !(q.1 == (i : Nat)) && !(q.1 + 1 == (i : Nat) && q.2.category == 2)) = lc2) (kk : V D nL A p l e R s m args below meth c Q k n ws (pc + 1) lc2 st) : V D nL A p l e R s m args below meth c Q k n ws pc lc (.ref x :: st) := by
  intro H locs ls hP hD hS hl
  exact lv_astore_n C.exec C.bytes d rfl hl hn h (fun ls2 hl2 => kk H locs ls2 hP hD hS hl2)
theorem V.astore (C : Cx D cy sa own cc nL ret A p l s m args meth c) {i : Nat} {x : Nat} {lc2 : List (Nat × Value)} (d : decode cc pc = .ok (.astore i, 2)) (hn : i < nL) (h : (i, Value.ref x) :: lc.filter (fun q => !(q.1 == i) && !(q.1 + 1 == i && q.2.category == 2)) = lc2) (kk : V D nL A p l e R s m args below meth c Q k n ws (pc + 2) lc2 st) : V D nL A p l e R s m args below meth c Q k n ws pc lc (.ref x :: st) := by
  intro H locs ls hP hD hS hl
  exact lv_astore C.exec C.bytes d hl hn h (fun ls2 hl2 => kk H locs ls2 hP hD hS hl2)
theorem V.iinc (C : Cx D cy sa own cc nL ret A p l s m args meth c) {i : Nat} {z x : Int} {lc2 : List (Nat × Value)} (d : decode cc pc = .ok (.iinc i z, 3)) (j : Nat) (hj : lc[j]? = some (i, vi x)) (hn : i < nL) (h : (i, vi (x + z)) :: lc.filter (fun q => !(q.1 == i) && !(q.1 + 1 == i && q.2.category == 2)) = lc2) (kk : V D nL A p l e R s m args below meth c Q k n ws (pc + 3) lc2 st) : V D nL A p l e R s m args below meth c Q k n ws pc lc st := by
  intro H locs ls hP hD hS hl
  exact lv_iinc C.exec C.bytes d hl hj (zI_add x z) hn h (fun ls2 hl2 => kk H locs ls2 hP hD hS hl2)
theorem V.iconst (C : Cx D cy sa own cc nL ret A p l s m args meth c) {z : Int} (d : decode cc pc = .ok (.iconst z, 1)) (kk : V D nL A p l e R s m args below meth c Q k n ws (pc + 1) lc (vi z :: st)) : V D nL A p l e R s m args below meth c Q k n ws pc lc st := by
  intro H locs ls hP hD hS hl
  exact lv_iconst C.exec C.bytes d rfl (kk H locs ls hP hD hS hl)
theorem V.bipush (C : Cx D cy sa own cc nL ret A p l s m args meth c) {z : Int} (d : decode cc pc = .ok (.bipush z, 2)) (hz : (Int8.ofInt z).toInt32 = zI z) (kk : V D nL A p l e R s m args below meth c Q k n ws (pc + 2) lc (vi z :: st)) : V D nL A p l e R s m args below meth c Q k n ws pc lc st := by
  intro H locs ls hP hD hS hl
  exact lv_bipush C.exec C.bytes d hz (kk H locs ls hP hD hS hl)
theorem V.sipush (C : Cx D cy sa own cc nL ret A p l s m args meth c) {z : Int} (d : decode cc pc = .ok (.sipush z, 3)) (hz : (Int16.ofInt z).toInt32 = zI z) (kk : V D nL A p l e R s m args below meth c Q k n ws (pc + 3) lc (vi z :: st)) : V D nL A p l e R s m args below meth c Q k n ws pc lc st := by
  intro H locs ls hP hD hS hl
  exact lv_sipush C.exec C.bytes d hz (kk H locs ls hP hD hS hl)
theorem V.iadd (C : Cx D cy sa own cc nL ret A p l s m args meth c) {x y : Int} (d : decode cc pc = .ok (.iadd, 1)) (kk : V D nL A p l e R s m args below meth c Q k n ws (pc + 1) lc (vi (x + y) :: st)) : V D nL A p l e R s m args below meth c Q k n ws pc lc (vi y :: vi x :: st) := by
  intro H locs ls hP hD hS hl
  have h := kk H locs ls hP hD hS hl
  rw [show vi (x + y) = .int (zI x + zI y) by rw [zI_add]] at h
  exact lv_iadd C.exec C.bytes d h
theorem V.isub (C : Cx D cy sa own cc nL ret A p l s m args meth c) {x y : Int} (d : decode cc pc = .ok (.isub, 1)) (kk : V D nL A p l e R s m args below meth c Q k n ws (pc + 1) lc (vi (x - y) :: st)) : V D nL A p l e R s m args below meth c Q k n ws pc lc (vi y :: vi x :: st) := by
  intro H locs ls hP hD hS hl
  have h := kk H locs ls hP hD hS hl
  rw [show vi (x - y) = .int (zI x - zI y) by rw [zI_sub]] at h
  exact lv_isub C.exec C.bytes d h
theorem V.imul (C : Cx D cy sa own cc nL ret A p l s m args meth c) {x y : Int} (d : decode cc pc = .ok (.imul, 1)) (kk : V D nL A p l e R s m args below meth c Q k n ws (pc + 1) lc (vi (x * y) :: st)) : V D nL A p l e R s m args below meth c Q k n ws pc lc (vi y :: vi x :: st) := by
  intro H locs ls hP hD hS hl
  have h := kk H locs ls hP hD hS hl
  rw [show vi (x * y) = .int (zI x * zI y) by rw [zI_mul]] at h
  exact lv_imul C.exec C.bytes d h
theorem V.idiv (C : Cx D cy sa own cc nL ret A p l s m args meth c) {x y : Int} (d : decode cc pc = .ok (.idiv, 1)) (hx : inR x) (hx0 : 0 ≤ x) (hy : inR y) (hy0 : 0 < y) (kk : V D nL A p l e R s m args below meth c Q k n ws (pc + 1) lc (vi (x / y) :: st)) : V D nL A p l e R s m args below meth c Q k n ws pc lc (vi y :: vi x :: st) := by
  intro H locs ls hP hD hS hl
  have h := kk H locs ls hP hD hS hl
  rw [show vi (x / y) = .int (zI x / zI y) by rw [zI_div hx hx0 hy hy0]] at h
  exact lv_idiv C.exec C.bytes d (zI_ne0 hy (by omega)) h
theorem V.irem (C : Cx D cy sa own cc nL ret A p l s m args meth c) {x y : Int} (d : decode cc pc = .ok (.irem, 1)) (hx : inR x) (hx0 : 0 ≤ x) (hy : inR y) (hy0 : 0 < y) (kk : V D nL A p l e R s m args below meth c Q k n ws (pc + 1) lc (vi (x % y) :: st)) : V D nL A p l e R s m args below meth c Q k n ws pc lc (vi y :: vi x :: st) := by
  intro H locs ls hP hD hS hl
  have h := kk H locs ls hP hD hS hl
  rw [show vi (x % y) = .int (zI x - zI x / zI y * zI y) by rw [zI_rem hx hx0 hy hy0]] at h
  exact lv_irem C.exec C.bytes d (zI_ne0 hy (by omega)) h
theorem V.iand (C : Cx D cy sa own cc nL ret A p l s m args meth c) {x y z : Int} (d : decode cc pc = .ok (.iand, 1)) (hz : zI x &&& zI y = zI z) (kk : V D nL A p l e R s m args below meth c Q k n ws (pc + 1) lc (vi z :: st)) : V D nL A p l e R s m args below meth c Q k n ws pc lc (vi y :: vi x :: st) := by
  intro H locs ls hP hD hS hl
  have h := kk H locs ls hP hD hS hl
  rw [show vi z = .int (zI x &&& zI y) by rw [hz]] at h
  exact lv_iand C.exec C.bytes d h
theorem V.ior (C : Cx D cy sa own cc nL ret A p l s m args meth c) {x y z : Int} (d : decode cc pc = .ok (.ior, 1)) (hz : zI x ||| zI y = zI z) (kk : V D nL A p l e R s m args below meth c Q k n ws (pc + 1) lc (vi z :: st)) : V D nL A p l e R s m args below meth c Q k n ws pc lc (vi y :: vi x :: st) := by
  intro H locs ls hP hD hS hl
  have h := kk H locs ls hP hD hS hl
  rw [show vi z = .int (zI x ||| zI y) by rw [hz]] at h
  exact lv_ior C.exec C.bytes d h
theorem V.ishl (C : Cx D cy sa own cc nL ret A p l s m args meth c) {x y z : Int} (d : decode cc pc = .ok (.ishl, 1)) (hz : zI x <<< (zI y &&& 31) = zI z) (kk : V D nL A p l e R s m args below meth c Q k n ws (pc + 1) lc (vi z :: st)) : V D nL A p l e R s m args below meth c Q k n ws pc lc (vi y :: vi x :: st) := by
  intro H locs ls hP hD hS hl
  have h := kk H locs ls hP hD hS hl
  rw [show vi z = .int (zI x <<< (zI y &&& 31)) by rw [hz]] at h
  exact lv_ishl C.exec C.bytes d h
theorem V.ishr (C : Cx D cy sa own cc nL ret A p l s m args meth c) {x y z : Int} (d : decode cc pc = .ok (.ishr, 1)) (hz : zI x >>> (zI y &&& 31) = zI z) (kk : V D nL A p l e R s m args below meth c Q k n ws (pc + 1) lc (vi z :: st)) : V D nL A p l e R s m args below meth c Q k n ws pc lc (vi y :: vi x :: st) := by
  intro H locs ls hP hD hS hl
  have h := kk H locs ls hP hD hS hl
  rw [show vi z = .int (zI x >>> (zI y &&& 31)) by rw [hz]] at h
  exact lv_ishr C.exec C.bytes d h
theorem V.i2l (C : Cx D cy sa own cc nL ret A p l s m args meth c) {x : Int} (d : decode cc pc = .ok (.i2l, 1)) (kk : V D nL A p l e R s m args below meth c Q k n ws (pc + 1) lc (.long (zI x).toInt64 :: st)) : V D nL A p l e R s m args below meth c Q k n ws pc lc (vi x :: st) := by
  intro H locs ls hP hD hS hl
  exact lv_i2l C.exec C.bytes d rfl (kk H locs ls hP hD hS hl)
theorem V.pop (C : Cx D cy sa own cc nL ret A p l s m args meth c) {v : Value} (d : decode cc pc = .ok (.pop, 1)) (hv : v.category = 1) (kk : V D nL A p l e R s m args below meth c Q k n ws (pc + 1) lc st) : V D nL A p l e R s m args below meth c Q k n ws pc lc (v :: st) := by
  intro H locs ls hP hD hS hl
  exact lv_pop C.exec C.bytes d hv (kk H locs ls hP hD hS hl)
theorem V.dup (C : Cx D cy sa own cc nL ret A p l s m args meth c) {v : Value} (d : decode cc pc = .ok (.dup, 1)) (hv : v.category = 1) (kk : V D nL A p l e R s m args below meth c Q k n ws (pc + 1) lc (v :: v :: st)) : V D nL A p l e R s m args below meth c Q k n ws pc lc (v :: st) := by
  intro H locs ls hP hD hS hl
  exact lv_dup C.exec C.bytes d hv (kk H locs ls hP hD hS hl)
theorem V.dup_x1 (C : Cx D cy sa own cc nL ret A p l s m args meth c) {v w : Value} (d : decode cc pc = .ok (.dup_x1, 1)) (hv : v.category = 1) (hw : w.category = 1) (kk : V D nL A p l e R s m args below meth c Q k n ws (pc + 1) lc (v :: w :: v :: st)) : V D nL A p l e R s m args below meth c Q k n ws pc lc (v :: w :: st) := by
  intro H locs ls hP hD hS hl
  exact lv_dup_x1 C.exec C.bytes d hv hw (kk H locs ls hP hD hS hl)
theorem V.dup2 (C : Cx D cy sa own cc nL ret A p l s m args meth c) {v w : Value} (d : decode cc pc = .ok (.dup2, 1)) (hv : v.category = 1) (hw : w.category = 1) (kk : V D nL A p l e R s m args below meth c Q k n ws (pc + 1) lc (v :: w :: v :: w :: st)) : V D nL A p l e R s m args below meth c Q k n ws pc lc (v :: w :: st) := by
  intro H locs ls hP hD hS hl
  exact lv_dup2_11 C.exec C.bytes d hv hw (kk H locs ls hP hD hS hl)
theorem V.goto (C : Cx D cy sa own cc nL ret A p l s m args meth c) {off : Int} (tgt : Nat) (d : decode cc pc = .ok (.goto off, 3)) (ht : (pc : Int) + off = (tgt : Int)) (kk : V D nL A p l e R s m args below meth c Q k n ws tgt lc st) : V D nL A p l e R s m args below meth c Q k n ws pc lc st := by
  intro H locs ls hP hD hS hl
  exact lv_goto C.exec C.bytes d ht (kk H locs ls hP hD hS hl)
theorem V.if_eq (C : Cx D cy sa own cc nL ret A p l s m args meth c) {x : Int} {off : Int} (tgt : Nat) (d : decode cc pc = .ok (.ifCond .eq off, 3)) (ht : (pc : Int) + off = (tgt : Int)) (hx : inR x) (kt : x = 0 → V D nL A p l e R s m args below meth c Q k n ws tgt lc st) (kf : ¬ x = 0 → V D nL A p l e R s m args below meth c Q k n ws (pc + 3) lc st) : V D nL A p l e R s m args below meth c Q k n ws pc lc (vi x :: st) := by
  intro H locs ls hP hD hS hl
  exact lv_if_eq C.exec C.bytes d ht (fun h => kt ((zI_eq hx inR_0).mp h) H locs ls hP hD hS hl) (fun h => kf (fun z => h ((zI_eq hx inR_0).mpr z)) H locs ls hP hD hS hl)
theorem V.if_ne (C : Cx D cy sa own cc nL ret A p l s m args meth c) {x : Int} {off : Int} (tgt : Nat) (d : decode cc pc = .ok (.ifCond .ne off, 3)) (ht : (pc : Int) + off = (tgt : Int)) (hx : inR x) (kt : ¬ x = 0 → V D nL A p l e R s m args below meth c Q k n ws tgt lc st) (kf : x = 0 → V D nL A p l e R s m args below meth c Q k n ws (pc + 3) lc st) : V D nL A p l e R s m args below meth c Q k n ws pc lc (vi x :: st) := by
  intro H locs ls hP hD hS hl
  exact lv_if_ne C.exec C.bytes d ht (fun h => kt (fun z => h ((zI_eq hx inR_0).mpr z)) H locs ls hP hD hS hl) (fun h => kf ((zI_eq hx inR_0).mp h) H locs ls hP hD hS hl)
theorem V.if_lt (C : Cx D cy sa own cc nL ret A p l s m args meth c) {x : Int} {off : Int} (tgt : Nat) (d : decode cc pc = .ok (.ifCond .lt off, 3)) (ht : (pc : Int) + off = (tgt : Int)) (hx : inR x) (kt : x < 0 → V D nL A p l e R s m args below meth c Q k n ws tgt lc st) (kf : ¬ x < 0 → V D nL A p l e R s m args below meth c Q k n ws (pc + 3) lc st) : V D nL A p l e R s m args below meth c Q k n ws pc lc (vi x :: st) := by
  intro H locs ls hP hD hS hl
  exact lv_if_lt C.exec C.bytes d ht (fun h => kt ((zI_lt hx inR_0).mp h) H locs ls hP hD hS hl) (fun h => kf (fun z => h ((zI_lt hx inR_0).mpr z)) H locs ls hP hD hS hl)
theorem V.if_ge (C : Cx D cy sa own cc nL ret A p l s m args meth c) {x : Int} {off : Int} (tgt : Nat) (d : decode cc pc = .ok (.ifCond .ge off, 3)) (ht : (pc : Int) + off = (tgt : Int)) (hx : inR x) (kt : 0 ≤ x → V D nL A p l e R s m args below meth c Q k n ws tgt lc st) (kf : ¬ 0 ≤ x → V D nL A p l e R s m args below meth c Q k n ws (pc + 3) lc st) : V D nL A p l e R s m args below meth c Q k n ws pc lc (vi x :: st) := by
  intro H locs ls hP hD hS hl
  exact lv_if_ge C.exec C.bytes d ht (fun h => kt ((zI_le inR_0 hx).mp h) H locs ls hP hD hS hl) (fun h => kf (fun z => h ((zI_le inR_0 hx).mpr z)) H locs ls hP hD hS hl)
theorem V.if_gt (C : Cx D cy sa own cc nL ret A p l s m args meth c) {x : Int} {off : Int} (tgt : Nat) (d : decode cc pc = .ok (.ifCond .gt off, 3)) (ht : (pc : Int) + off = (tgt : Int)) (hx : inR x) (kt : 0 < x → V D nL A p l e R s m args below meth c Q k n ws tgt lc st) (kf : ¬ 0 < x → V D nL A p l e R s m args below meth c Q k n ws (pc + 3) lc st) : V D nL A p l e R s m args below meth c Q k n ws pc lc (vi x :: st) := by
  intro H locs ls hP hD hS hl
  exact lv_if_gt C.exec C.bytes d ht (fun h => kt ((zI_lt inR_0 hx).mp h) H locs ls hP hD hS hl) (fun h => kf (fun z => h ((zI_lt inR_0 hx).mpr z)) H locs ls hP hD hS hl)
theorem V.if_le (C : Cx D cy sa own cc nL ret A p l s m args meth c) {x : Int} {off : Int} (tgt : Nat) (d : decode cc pc = .ok (.ifCond .le off, 3)) (ht : (pc : Int) + off = (tgt : Int)) (hx : inR x) (kt : x ≤ 0 → V D nL A p l e R s m args below meth c Q k n ws tgt lc st) (kf : ¬ x ≤ 0 → V D nL A p l e R s m args below meth c Q k n ws (pc + 3) lc st) : V D nL A p l e R s m args below meth c Q k n ws pc lc (vi x :: st) := by
  intro H locs ls hP hD hS hl
  exact lv_if_le C.exec C.bytes d ht (fun h => kt ((zI_le hx inR_0).mp h) H locs ls hP hD hS hl) (fun h => kf (fun z => h ((zI_le hx inR_0).mpr z)) H locs ls hP hD hS hl)
theorem V.if_eqB (C : Cx D cy sa own cc nL ret A p l s m args meth c) {b : Bool} {off : Int} (tgt : Nat) (d : decode cc pc = .ok (.ifCond .eq off, 3)) (ht : (pc : Int) + off = (tgt : Int)) (kt : b = false → V D nL A p l e R s m args below meth c Q k n ws tgt lc st) (kf : b = true → V D nL A p l e R s m args below meth c Q k n ws (pc + 3) lc st) : V D nL A p l e R s m args below meth c Q k n ws pc lc (vi (bI b) :: st) := by
  intro H locs ls hP hD hS hl
  exact V.if_eq C tgt d ht (inR_bI b) (fun h => kt (bI_0.mp h)) (fun h => kf (by cases b <;> simp_all [bI])) H locs ls hP hD hS hl
theorem V.if_neB (C : Cx D cy sa own cc nL ret A p l s m args meth c) {b : Bool} {off : Int} (tgt : Nat) (d : decode cc pc = .ok (.ifCond .ne off, 3)) (ht : (pc : Int) + off = (tgt : Int)) (kt : b = true → V D nL A p l e R s m args below meth c Q k n ws tgt lc st) (kf : b = false → V D nL A p l e R s m args below meth c Q k n ws (pc + 3) lc st) : V D nL A p l e R s m args below meth c Q k n ws pc lc (vi (bI b) :: st) := by
  intro H locs ls hP hD hS hl
  exact V.if_ne C tgt d ht (inR_bI b) (fun h => kt (by cases b <;> simp_all [bI])) (fun h => kf (bI_0.mp h)) H locs ls hP hD hS hl
theorem V.icmp_eq (C : Cx D cy sa own cc nL ret A p l s m args meth c) {x y : Int} {off : Int} (tgt : Nat) (d : decode cc pc = .ok (.if_icmp .eq off, 3)) (ht : (pc : Int) + off = (tgt : Int)) (hx : inR x) (hy : inR y) (kt : x = y → V D nL A p l e R s m args below meth c Q k n ws tgt lc st) (kf : ¬ x = y → V D nL A p l e R s m args below meth c Q k n ws (pc + 3) lc st) : V D nL A p l e R s m args below meth c Q k n ws pc lc (vi y :: vi x :: st) := by
  intro H locs ls hP hD hS hl
  exact lv_icmp_eq C.exec C.bytes d ht (fun h => kt ((zI_eq hx hy).mp h) H locs ls hP hD hS hl) (fun h => kf (fun z => h ((zI_eq hx hy).mpr z)) H locs ls hP hD hS hl)
theorem V.icmp_ne (C : Cx D cy sa own cc nL ret A p l s m args meth c) {x y : Int} {off : Int} (tgt : Nat) (d : decode cc pc = .ok (.if_icmp .ne off, 3)) (ht : (pc : Int) + off = (tgt : Int)) (hx : inR x) (hy : inR y) (kt : ¬ x = y → V D nL A p l e R s m args below meth c Q k n ws tgt lc st) (kf : x = y → V D nL A p l e R s m args below meth c Q k n ws (pc + 3) lc st) : V D nL A p l e R s m args below meth c Q k n ws pc lc (vi y :: vi x :: st) := by
  intro H locs ls hP hD hS hl
  exact lv_icmp_ne C.exec C.bytes d ht (fun h => kt (fun z => h ((zI_eq hx hy).mpr z)) H locs ls hP hD hS hl) (fun h => kf ((zI_eq hx hy).mp h) H locs ls hP hD hS hl)
theorem V.icmp_lt (C : Cx D cy sa own cc nL ret A p l s m args meth c) {x y : Int} {off : Int} (tgt : Nat) (d : decode cc pc = .ok (.if_icmp .lt off, 3)) (ht : (pc : Int) + off = (tgt : Int)) (hx : inR x) (hy : inR y) (kt : x < y → V D nL A p l e R s m args below meth c Q k n ws tgt lc st) (kf : ¬ x < y → V D nL A p l e R s m args below meth c Q k n ws (pc + 3) lc st) : V D nL A p l e R s m args below meth c Q k n ws pc lc (vi y :: vi x :: st) := by
  intro H locs ls hP hD hS hl
  exact lv_icmp_lt C.exec C.bytes d ht (fun h => kt ((zI_lt hx hy).mp h) H locs ls hP hD hS hl) (fun h => kf (fun z => h ((zI_lt hx hy).mpr z)) H locs ls hP hD hS hl)
theorem V.icmp_ge (C : Cx D cy sa own cc nL ret A p l s m args meth c) {x y : Int} {off : Int} (tgt : Nat) (d : decode cc pc = .ok (.if_icmp .ge off, 3)) (ht : (pc : Int) + off = (tgt : Int)) (hx : inR x) (hy : inR y) (kt : y ≤ x → V D nL A p l e R s m args below meth c Q k n ws tgt lc st) (kf : ¬ y ≤ x → V D nL A p l e R s m args below meth c Q k n ws (pc + 3) lc st) : V D nL A p l e R s m args below meth c Q k n ws pc lc (vi y :: vi x :: st) := by
  intro H locs ls hP hD hS hl
  exact lv_icmp_ge C.exec C.bytes d ht (fun h => kt ((zI_le hy hx).mp h) H locs ls hP hD hS hl) (fun h => kf (fun z => h ((zI_le hy hx).mpr z)) H locs ls hP hD hS hl)
theorem V.icmp_gt (C : Cx D cy sa own cc nL ret A p l s m args meth c) {x y : Int} {off : Int} (tgt : Nat) (d : decode cc pc = .ok (.if_icmp .gt off, 3)) (ht : (pc : Int) + off = (tgt : Int)) (hx : inR x) (hy : inR y) (kt : y < x → V D nL A p l e R s m args below meth c Q k n ws tgt lc st) (kf : ¬ y < x → V D nL A p l e R s m args below meth c Q k n ws (pc + 3) lc st) : V D nL A p l e R s m args below meth c Q k n ws pc lc (vi y :: vi x :: st) := by
  intro H locs ls hP hD hS hl
  exact lv_icmp_gt C.exec C.bytes d ht (fun h => kt ((zI_lt hy hx).mp h) H locs ls hP hD hS hl) (fun h => kf (fun z => h ((zI_lt hy hx).mpr z)) H locs ls hP hD hS hl)
theorem V.icmp_le (C : Cx D cy sa own cc nL ret A p l s m args meth c) {x y : Int} {off : Int} (tgt : Nat) (d : decode cc pc = .ok (.if_icmp .le off, 3)) (ht : (pc : Int) + off = (tgt : Int)) (hx : inR x) (hy : inR y) (kt : x ≤ y → V D nL A p l e R s m args below meth c Q k n ws tgt lc st) (kf : ¬ x ≤ y → V D nL A p l e R s m args below meth c Q k n ws (pc + 3) lc st) : V D nL A p l e R s m args below meth c Q k n ws pc lc (vi y :: vi x :: st) := by
  intro H locs ls hP hD hS hl
  exact lv_icmp_le C.exec C.bytes d ht (fun h => kt ((zI_le hx hy).mp h) H locs ls hP hD hS hl) (fun h => kf (fun z => h ((zI_le hx hy).mpr z)) H locs ls hP hD hS hl)
theorem V.table (C : Cx D cy sa own cc nL ret A p l s m args meth c) {dflt lo hi : Int} {offs : Array Int} {len : Nat} {x : Int} (tgt : Nat) (d : decode cc pc = .ok (.tableswitch dflt lo hi offs, len)) (hx : inR x) (off : Int) (ho : (if x < lo ∨ hi < x then some dflt else offs[(x - lo).toNat]?) = some off) (ht : (pc : Int) + off = (tgt : Int)) (kk : V D nL A p l e R s m args below meth c Q k n ws tgt lc st) : V D nL A p l e R s m args below meth c Q k n ws pc lc (vi x :: st) := by
  intro H locs ls hP hD hS hl
  by_cases hh : x < lo ∨ hi < x
  · rw [if_pos hh] at ho
    cases ho
    exact lv_tableOut C.exec C.bytes d (by rw [zI_toInt hx]; exact hh) ht (kk H locs ls hP hD hS hl)
  · rw [if_neg hh] at ho
    exact lv_tableIn C.exec C.bytes d (by rw [zI_toInt hx]; omega) (by rw [zI_toInt hx]; omega) (by rw [zI_toInt hx]; exact ho) ht (kk H locs ls hP hD hS hl)
theorem V.getf (C : Cx D cy sa own cc nL ret A p l s m args meth c) {Cn ref : String} {T : u_T} {N ci index : Nat} {fs : List Value} {a : Nat} (q0 : Nat) (he : ws[q0]? = some (a, .inr (ci, fs))) (hc : vwCl[ci]? = some (Cn, T, N)) (hin : ∀ w ∈ u_ws Cn T N, w ∈ GW) (j : Nat) (hj : j < N) (hlink : Cond.fieldLink own index ref (T j).2.1 (T j).2.2.1 ∈ GW) (hsame : ∀ x, s.fieldFound? (T j).1 (T j).2.1 (T j).2.2.1 = some x → s.fieldFound? ref (T j).2.1 (T j).2.2.1 = some x) {v : Value} (hv : fs[j]? = some v) (d : decode cc pc = .ok (.getfield index, 3)) (kk : V D nL A p l e R s m args below meth c Q k n ws (pc + 3) lc (v :: st)) : V D nL A p l e R s m args below meth c Q k n ws pc lc (.ref a :: st) := by
  intro H locs ls hP hD hS hl
  exact va_get C.exec C.bytes C.hts hin C.ow C.ev.1 hP q0 he hc j hj (C.hts _ hlink) hsame hv d (kk H locs ls hP hD hS hl)
theorem V.putf (C : Cx D cy sa own cc nL ret A p l s m args meth c) {Cn ref : String} {T : u_T} {N ci index : Nat} {fs : List Value} {a : Nat} {ws2 : va_W} (q0 : Nat) (he : ws[q0]? = some (a, .inr (ci, fs))) (hc : vwCl[ci]? = some (Cn, T, N)) (hin : ∀ w ∈ u_ws Cn T N, w ∈ GW) (ty0 : Nat → FieldType) (hty : ∀ k, k < N → parseFieldDescriptor (T k).2.2.1 = some (ty0 k)) (hnm : ∀ a, a < N → ∀ b, b < N → a ≠ b → (T a).2.1 ≠ (T b).2.1) (j : Nat) (hj : j < N) (hlink : Cond.fieldLink own index ref (T j).2.1 (T j).2.2.1 ∈ GW) (hsame : ∀ x, s.fieldFound? (T j).1 (T j).2.1 (T j).2.2.1 = some x → s.fieldFound? ref (T j).2.1 (T j).2.2.1 = some x) (hfin : (T j).2.2.2 = false) {ty : FieldType} {v : Value} (hd : parseFieldDescriptor (T j).2.2.1 = some ty) (hn : narrow ty v = v) (hfit : fits ty v = true) (hl0 : j < fs.length) (d : decode cc pc = .ok (.putfield index, 3)) (hw : ws.set q0 (a, .inr (ci, fs.set j v)) = ws2) (kk : V D nL A p l e R s m args below meth c Q k n ws2 (pc + 3) lc st) : V D nL A p l e R s m args below meth c Q k n ws pc lc (v :: .ref a :: st) := by
  intro H locs ls hP hD hS hl
  subst hw
  exact va_put C.exec C.bytes C.hts hin ty0 hty hnm C.ow C.ev.1 hP hD hS q0 he hc j hj (C.hts _ hlink) hsame hfin hd hn hfit hl0 d (fun H2 locs2 hP2 hD2 hS2 => kk H2 locs2 ls hP2 hD2 hS2 hl)
theorem V.putF (C : Cx D cy sa own cc nL ret A p l s m args meth c) {Cn ref : String} {T : u_T} {N ci index : Nat} {fs : List Value} {a : Nat} {ws2 : va_W} (q0 : Nat) (he : ws[q0]? = some (a, .inr (ci, fs))) (hc : vwCl[ci]? = some (Cn, T, N)) (hin : ∀ w ∈ u_ws Cn T N, w ∈ GW) (ty0 : Nat → FieldType) (hty : ∀ k, k < N → parseFieldDescriptor (T k).2.2.1 = some (ty0 k)) (hnm : ∀ a, a < N → ∀ b, b < N → a ≠ b → (T a).2.1 ≠ (T b).2.1) (j : Nat) (hj : j < N) (hlink : Cond.fieldLink own index ref (T j).2.1 (T j).2.2.1 ∈ GW) (hsame : ∀ x, s.fieldFound? (T j).1 (T j).2.1 (T j).2.2.1 = some x → s.fieldFound? ref (T j).2.1 (T j).2.2.1 = some x) (hfin : (T j).2.2.2 = true) (hin2 : meth.name = "<init>") (hdecl : (T j).1 = own) {ty : FieldType} {v : Value} (hd : parseFieldDescriptor (T j).2.2.1 = some ty) (hn : narrow ty v = v) (hfit : fits ty v = true) (hl0 : j < fs.length) (d : decode cc pc = .ok (.putfield index, 3)) (hw : ws.set q0 (a, .inr (ci, fs.set j v)) = ws2) (kk : V D nL A p l e R s m args below meth c Q k n ws2 (pc + 3) lc st) : V D nL A p l e R s m args below meth c Q k n ws pc lc (v :: .ref a :: st) := by
  intro H locs ls hP hD hS hl
  subst hw
  exact va_putF C.exec C.bytes C.hts hin ty0 hty hnm C.ow C.ev.1 hP hD hS q0 he hc j hj (C.hts _ hlink) hsame hfin hin2 hdecl hd hn hfit hl0 d (fun H2 locs2 hP2 hD2 hS2 => kk H2 locs2 ls hP2 hD2 hS2 hl)
theorem V.iald (C : Cx D cy sa own cc nL ret A p l s m args meth c) {a N : Nat} {f : Nat → Int32} {i v : Int} (q0 : Nat) (he : ws[q0]? = some (a, .inl (cy 0, N, .inl f))) (h0 : 0 ≤ i) (h1 : i < (N : Int)) (hN : N ≤ 65536) (hv : f i.toNat = zI v) (d : decode cc pc = .ok (.iaload, 1)) (kk : V D nL A p l e R s m args below meth c Q k n ws (pc + 1) lc (vi v :: st)) : V D nL A p l e R s m args below meth c Q k n ws pc lc (vi i :: .ref a :: st) := by
  intro H locs ls hP hD hS hl
  have h := kk H locs ls hP hD hS hl
  rw [show vi v = .int (f (zI i).toNatClampNeg) by rw [zI_clamp ⟨by omega, by omega⟩, hv]] at h
  exact va_iald C.exec C.bytes C.ev.1 hP q0 0 he rfl (zI_in h0 h1 hN) d h
theorem V.zald (C : Cx D cy sa own cc nL ret A p l s m args meth c) {a N : Nat} {f : Nat → Int32} {i v : Int} (q0 : Nat) (he : ws[q0]? = some (a, .inl (cy 1, N, .inl f))) (h0 : 0 ≤ i) (h1 : i < (N : Int)) (hN : N ≤ 65536) (hv : f i.toNat = zI v) (d : decode cc pc = .ok (.baload, 1)) (kk : V D nL A p l e R s m args below meth c Q k n ws (pc + 1) lc (vi v :: st)) : V D nL A p l e R s m args below meth c Q k n ws pc lc (vi i :: .ref a :: st) := by
  intro H locs ls hP hD hS hl
  have h := kk H locs ls hP hD hS hl
  rw [show vi v = .int (f (zI i).toNatClampNeg) by rw [zI_clamp ⟨by omega, by omega⟩, hv]] at h
  exact va_zald C.exec C.bytes C.ev.1 hP q0 1 he rfl (zI_in h0 h1 hN) d h
theorem V.iast (C : Cx D cy sa own cc nL ret A p l s m args meth c) {a N : Nat} {f : Nat → Int32} {i x : Int} {ws2 : va_W} (q0 : Nat) (he : ws[q0]? = some (a, .inl (cy 0, N, .inl f))) (h0 : 0 ≤ i) (h1 : i < (N : Int)) (hN : N ≤ 65536) (d : decode cc pc = .ok (.iastore, 1)) (hw : ws.set q0 (a, .inl (cy 0, N, .inl (upd f i.toNat (zI x)))) = ws2) (kk : V D nL A p l e R s m args below meth c Q k n ws2 (pc + 1) lc st) : V D nL A p l e R s m args below meth c Q k n ws pc lc (vi x :: vi i :: .ref a :: st) := by
  intro H locs ls hP hD hS hl
  subst hw
  refine va_iast C.exec C.bytes C.ev.1 hP hD hS q0 0 he rfl (zI_in h0 h1 hN) d (fun H2 locs2 hP2 hD2 hS2 => ?_)
  rw [zI_clamp ⟨by omega, by omega⟩] at hP2 hD2
  exact kk H2 locs2 ls hP2 hD2 hS2 hl
theorem nar_bI (b : Bool) : vp_nar .boolean (zI (bI b)) = zI (bI b) := by cases b <;> rfl
theorem V.zast (C : Cx D cy sa own cc nL ret A p l s m args meth c) {a N : Nat} {f : Nat → Int32} {i : Int} {b : Bool} {ws2 : va_W} (q0 : Nat) (he : ws[q0]? = some (a, .inl (cy 1, N, .inl f))) (h0 : 0 ≤ i) (h1 : i < (N : Int)) (hN : N ≤ 65536) (d : decode cc pc = .ok (.bastore, 1)) (hw : ws.set q0 (a, .inl (cy 1, N, .inl (upd f i.toNat (zI (bI b))))) = ws2) (kk : V D nL A p l e R s m args below meth c Q k n ws2 (pc + 1) lc st) : V D nL A p l e R s m args below meth c Q k n ws pc lc (vi (bI b) :: vi i :: .ref a :: st) := by
  intro H locs ls hP hD hS hl
  subst hw
  refine va_zast C.exec C.bytes C.ev.1 hP hD hS q0 1 he rfl (zI_in h0 h1 hN) d (fun H2 locs2 hP2 hD2 hS2 => ?_)
  rw [zI_clamp ⟨by omega, by omega⟩, nar_bI] at hP2 hD2
  exact kk H2 locs2 ls hP2 hD2 hS2 hl
theorem V.lsub {lc2 : List (Nat × Value)} (h : lc.all (fun q => decide (q ∈ lc2)) = true) (kk : V D nL A p l e R s m args below meth c Q k n ws pc lc st) : V D nL A p l e R s m args below meth c Q k n ws pc lc2 st := by
  intro H locs ls hP hD hS hl
  refine kk H locs ls hP hD hS ⟨hl.1, hl.2.1, fun q hq => hl.2.2 q ?_⟩
  exact of_decide_eq_true (List.all_eq_true.mp h q hq)
theorem V.sub {lc2 : List (Nat × Value)} (is : List Nat) (h : lv_pick lc2 is = lc) (kk : V D nL A p l e R s m args below meth c Q k n ws pc lc st) : V D nL A p l e R s m args below meth c Q k n ws pc lc2 st := fun H locs ls hP hD hS hl => kk H locs ls hP hD hS (lv_sub hl is h)
theorem V.to {ws2 : va_W} {pc2 : Nat} {lc2 : List (Nat × Value)} {st2 : List Value} (h1 : ws2 = ws) (h2 : pc2 = pc) (h3 : lc2 = lc) (h4 : st2 = st) (kk : V D nL A p l e R s m args below meth c Q k n ws pc lc st) : V D nL A p l e R s m args below meth c Q k n ws2 pc2 lc2 st2 := by subst h1 h2 h3 h4; exact kk
theorem V.widen {k2 n2 : Nat} (h1 : k ≤ k2) (h2 : n ≤ n2) (kk : V D nL A p l e R s m args below meth c Q k2 n2 ws pc lc st) : V D nL A p l e R s m args below meth c Q k n ws pc lc st := fun H locs ls hP hD hS hl => W.widen h1 h2 (kk H locs ls hP hD hS hl)
end ROWS
end
section
/-! CONTRACTS over worlds: what a method answers and leaves (Po), what it throws and leaves (Px); any caller -/
def Qo (D : va_G) (Po : Option Value → va_W → Prop) (A : Nat → Prop) : Array Value → State → Outcome → State → Prop := fun _ st o t => (∃ (v : Option Value) (ws2 : va_W), o = .returned v ∧ Po v ws2 ∧ va_P D vwCl ws2 t.heap ∧ va_D A ws2) ∧ va_F A st t
def Xo (D : va_G) (Px : String → va_W → Prop) (A : Nat → Prop) : String → State → State → Prop := fun E st t => ∃ ws2 : va_W, Px E ws2 ∧ va_P D vwCl ws2 t.heap ∧ va_D A ws2 ∧ va_F A st t
def rmL (lev mc ms : Nat) : Room := { frames := lev, cells := mc, slots := ms, locals := 37 * lev }
def preC (D : va_G) (cy : Nat → ClassId) (sa : Nat → Addr) (ws : va_W) (sz : Nat) : State → Prop := fun U => U.heap.size = sz ∧ va_P D vwCl ws U.heap ∧ va_D (fun _ => True) ws ∧ Ev D cy sa (va_A ws sz) U U.heap
def Ct (l : Launch) (D : va_G) (cy : Nat → ClassId) (sa : Nat → Addr) (y : MethodName) (cc : ByteArray) (maxL : Nat) (ret : Option FieldType) (lev mc ms : Nat) (ws : va_W) (av : List Value) (Po : Option Value → va_W → Prop) (Px : String → va_W → Prop) : Prop :=
  ∀ sz : Nat, vx_Met l y (.code y cc maxL ret :: GW) (rmL lev mc ms) (va_Pc av (preC D cy sa ws sz)) (Qo D Po (va_A ws sz)) (Xo D Px (va_A ws sz)) mc ms (va_A ws sz)
def no_x : String → va_W → Prop := fun _ _ => False
theorem preC.blind {D : va_G} {cy : Nat → ClassId} {sa : Nat → Addr} {ws : va_W} {sz : Nat} {av : List Value} : FrameBlind (va_Pc av (preC D cy sa ws sz)) := fun a U g mk h => ⟨h.1, h.2.1, h.2.2.1, h.2.2.2.1, Ev.same (s := U) (U := U.calling g mk a) rfl h.2.2.2.2⟩
theorem gw_in {ws : List Cond} (h : ∀ w ∈ ws, w ∈ GW) : GoodIn GW ws := fun w hw => ⟨h w hw, good_of_word (gw_good (h w hw))⟩
theorem gw_ct {w : Cond} (h : w ∈ GW) : GoodIn GW (w :: GW) := gw_in fun _ hx => (List.mem_cons.mp hx).elim (fun e => e ▸ h) id
/-- the caller's other cells, and the callee's world, behind a call -/
theorem join2 {A : Nat → Prop} {D : va_G} {cl : List vw_C} {wr wc w1 : va_W} {H H1 : Heap} (hP : va_P D cl (wr ++ wc) H) (hD : va_D A (wr ++ wc)) (hA : ∀ q : Nat, H.size ≤ q → A q)
    (hk : ∀ q : Nat, q < H.size → ¬ va_A wc H.size q → H1[q]? = H[q]?) (hP1 : va_P D cl w1 H1) (hD1 : va_D (va_A wc H.size) w1) : va_P D cl (wr ++ w1) H1 ∧ va_D A (wr ++ w1) := by
  have hR : ∀ (i : Nat) (x : Nat × va_E), wr[i]? = some x → (wr ++ wc)[i]? = some x := fun i x h => by
    rw [List.getElem?_append_left (List.getElem?_eq_some_iff.mp h).1]; exact h
  have hC : ∀ (i : Nat) (x : Nat × va_E), wc[i]? = some x → (wr ++ wc)[wr.length + i]? = some x := fun i x h => by
    rw [List.getElem?_append_right (by omega), Nat.add_sub_cancel_left]; exact h
  have hF : ∀ q, va_A wc H.size q → A q := fun q h => by
    rcases h with ⟨i, e, h⟩ | h
    · exact hD.2 _ (q, e) (hC i _ h)
    · exact hA q h
  have apart : ∀ (i : Nat) (x : Nat × va_E), wr[i]? = some x → x.1 < H.size ∧ ¬ va_A wc H.size x.1 := by
    intro i x hx
    have hl := (hP i x (hR i x hx)).lt
    refine ⟨hl, fun h => ?_⟩
    rcases h with ⟨j, e, h⟩ | h
    · have h9 := hD.1 i (wr.length + j) x (x.1, e) (hR i x hx) (hC j _ h) rfl
      have := (List.getElem?_eq_some_iff.mp hx).1
      omega
    · omega
  refine ⟨va_P.app (fun i x hx => ?_) hP1, va_D.app ⟨fun i j x y hi hj hxy => hD.1 i j x y (hR i x hi) (hR j y hj) hxy, fun i x hx => hD.2 i x (hR i x hx)⟩ (hD1.weaken fun _ x _ h => hF x.1 h) (fun i j x y hx hy hxy => ?_)⟩
  · obtain ⟨g1, g2⟩ := apart i x hx
    exact (hP i x (hR i x hx)).kept (hk x.1 g1 g2)
  · exact (apart i x hx).2 (by rw [hxy]; exact hD1.2 j y hy)
theorem free2 {A : Nat → Prop} {wr wc : va_W} {sz : Nat} (hD : va_D A (wr ++ wc)) (hA : ∀ q : Nat, sz ≤ q → A q) : ∀ q, va_A wc sz q → A q := fun q h => by
  rcases h with ⟨i, e, h⟩ | h
  · exact hD.2 (wr.length + i) (q, e) (by rw [List.getElem?_append_right (by omega), Nat.add_sub_cancel_left]; exact h)
  · exact hA q h
theorem part2 {A : Nat → Prop} {D : va_G} {cl : List vw_C} {wr wc : va_W} {H : Heap} (hP : va_P D cl (wr ++ wc) H) (hD : va_D A (wr ++ wc)) : va_P D cl wc H ∧ va_D (fun _ => True) wc := by
  have hC : ∀ (i : Nat) (x : Nat × va_E), wc[i]? = some x → (wr ++ wc)[wr.length + i]? = some x := fun i x h => by
    rw [List.getElem?_append_right (by omega), Nat.add_sub_cancel_left]; exact h
  exact ⟨fun i x h => hP _ x (hC i x h), fun i j x y hi hj hxy => by have := hD.1 _ _ x y (hC i x hi) (hC j y hj) hxy; omega, fun _ _ _ => trivial⟩
section CALLS
variable {p : Program} {l : Launch} {e : Env} {R : Room} {s : State} {m : MethodId} {args : Array Value} {below : List Frame} {meth : Method} {c : Code}
variable {D : va_G} {cy : Nat → ClassId} {sa : Nat → Addr} {own : String} {cc : ByteArray} {nL : Nat} {ret : Option FieldType} {A : Nat → Prop} {Q : State → Prop} {k n : Nat} {ws : va_W} {pc : Nat} {lc : List (Nat × Value)} {st : List Value}
variable {Po : Option Value → va_W → Prop} {Px : String → va_W → Prop} {mc ms : Nat}
/-- a method's walk gives its contract -/
theorem Ct.of {y : MethodName} {maxL lev : Nat} {av : List Value} (hy : plainName y.cls = true) (hfl : l.stackTraces = false) (h0 : (lg_sl av).length ≤ maxL) (hown : y.cls = own) (hlc : lv_args 0 av = lc)
    (body : ∀ (p : Program) (e : Env) (s : State) (m : MethodId) (args : Array Value) (below : List Frame) (meth : Method) (c : Code) (A : Nat → Prop), Cx D cy sa own cc maxL ret A p l s m args meth c → (∀ x ∈ c.exceptionTable.toList, False) → meth.name = y.name →
      V D maxL A p l e (rmL lev mc ms) s m args below meth c (vx_MQ below (Qo D Po A) (Xo D Px A) args s mc ms A) 0 0 ws 0 lc []) : Ct l D cy sa y cc maxL ret lev mc ms ws av Po Px := by
  intro sz
  refine vx_ofW (cc := cc) (maxL := maxL) (ret := ret) hy rfl ?_
  intro p e s m args below meth c s₁ B hml hex hv
  obtain ⟨rfl, hsz, hP, hD0, hE⟩ := hv
  subst hsz
  have hts : ∀ w ∈ GW, w.before av.toArray s = true := fun w hw => atoms_spec (ws := .code y cc maxL ret :: GW) B.pre w (List.mem_cons_of_mem _ hw)
  have hA : ∀ q : Nat, s.heap.size ≤ q → va_A ws s.heap.size q := fun q h => Or.inr h
  have hD := hD0.self (sz := s.heap.size)
  have hC : Cx D cy sa own cc maxL ret (va_A ws s.heap.size) p l s m av.toArray meth c := ⟨B.exec, B.bytes, hml, hown ▸ findClass_of_methodNamed B.named, hts, hE, hA, B.notSynchronized, B.returns, hfl⟩
  have hl := lv_entry av (n := maxL) h0
  rw [hlc] at hl
  rw [lg_entry_eq]
  exact body p e s m _ below meth c _ hC hex (name_of_methodNamed B.named B.method).1 s.heap [] _ hP hD va_S.rf hl
theorem V.iret (C : Cx D cy sa own cc nL (some .int) A p l s m args meth c) {x : Int} (d : decode cc pc = .ok (.ireturn, 1)) (hk : k ≤ mc) (hn : n ≤ ms) (h : Po (some (vi x)) ws) : V D nL A p l e R s m args below meth c (vx_MQ below (Qo D Po A) (Xo D Px A) args s mc ms A) k n ws pc lc [vi x] := by
  intro H locs ls hP hD hS hl
  exact vx_ret (W.widen hk hn (W.iret C.exec C.bytes C.re (fun t ht hW => ⟨⟨_, ws, rfl, h, by rw [ht]; exact hP, hD⟩, hS.F ht⟩) hS.2.2 d C.locks))
theorem V.zret (C : Cx D cy sa own cc nL (some .boolean) A p l s m args meth c) {b : Bool} (d : decode cc pc = .ok (.ireturn, 1)) (hk : k ≤ mc) (hn : n ≤ ms) (h : Po (some (vi (bI b))) ws) : V D nL A p l e R s m args below meth c (vx_MQ below (Qo D Po A) (Xo D Px A) args s mc ms A) k n ws pc lc [vi (bI b)] := by
  intro H locs ls hP hD hS hl
  exact vx_ret (W.widen hk hn (W.zret C.exec C.bytes C.re (by cases b <;> rfl) (fun t ht hW => ⟨⟨_, ws, rfl, h, by rw [ht]; exact hP, hD⟩, hS.F ht⟩) hS.2.2 d C.locks))
theorem V.vret (C : Cx D cy sa own cc nL none A p l s m args meth c) (d : decode cc pc = .ok (.return_, 1)) (hk : k ≤ mc) (hn : n ≤ ms) (h : Po none ws) : V D nL A p l e R s m args below meth c (vx_MQ below (Qo D Po A) (Xo D Px A) args s mc ms A) k n ws pc lc [] := by
  intro H locs ls hP hD hS hl
  exact vx_ret (W.widen hk hn (W.vret C.exec C.bytes C.re (fun t ht hW => ⟨⟨_, ws, rfl, h, by rw [ht]; exact hP, hD⟩, hS.F ht⟩) hS.2.2 d C.locks))
theorem V.aret {rt : FieldType} (C : Cx D cy sa own cc nL (some rt) A p l s m args meth c) {a : Nat} (hrt : (∃ n, rt = .object n) ∨ ∃ t, rt = .array t) (d : decode cc pc = .ok (.areturn, 1)) (hk : k ≤ mc) (hn : n ≤ ms) (h : Po (some (.ref a)) ws) : V D nL A p l e R s m args below meth c (vx_MQ below (Qo D Po A) (Xo D Px A) args s mc ms A) k n ws pc lc [.ref a] := by
  intro H locs ls hP hD hS hl
  exact vx_ret (W.widen hk hn (W.aret C.exec C.bytes C.re hrt (Or.inr ⟨a, rfl⟩) (fun t ht hW => ⟨⟨_, ws, rfl, h, by rw [ht]; exact hP, hD⟩, hS.F ht⟩) hS.2.2 d C.locks))
/-- an exception goes on to the caller -/
theorem VX.out (C : Cx D cy sa own cc nL ret A p l s m args meth c) (hex : ∀ x ∈ c.exceptionTable.toList, False) {E : String} (hk : k ≤ mc) (hn : n ≤ ms) (h : Px E ws) : VX D nL A p l e R s m args below meth c (vx_MQ below (Qo D Po A) (Xo D Px A) args s mc ms A) k n ws pc lc st E := by
  intro H locs ls q ce hP hD hS hl h1 h2 h3
  exact vx_out (fun x hx => (hex x hx).elim) C.locks h1 h2 h3 (fun t ht hvm => ⟨ws, h, by rw [ht]; exact hP, hD, hS.F ht⟩) hS.2.2 hk hn
/-- a call that has run: what comes behind it -/
theorem V.run {wr wc : va_W} {st0 : List Value} {a : Array Value} (C : Cx D cy sa own cc nL ret A p l s m args meth c)
    (hr : ∀ (H : Heap) (locs : List Loc) (ls : Array Slot), va_P D vwCl (wr ++ wc) H → va_D A (wr ++ wc) → va_S A s.heap H locs → lv_has ls nL lc → vx_Run p l e R s m args below meth c H locs k n mc ms (F0 m pc ls st0) st (Qo D Po (va_A wc H.size) a) (Xo D Px (va_A wc H.size)) (va_A wc H.size))
    (kx : ∀ (E : String) (ws2 : va_W), Px E ws2 → VX D nL A p l e R s m args below meth c Q (k + mc) (n + ms) (wr ++ ws2) pc lc st E)
    (kk : ∀ (v : Option Value) (ws2 : va_W), Po v ws2 → V D nL A p l e R s m args below meth c Q (k + mc) (n + ms) (wr ++ ws2) (pc + 3) lc (v.toList ++ st)) : V D nL A p l e R s m args below meth c Q k n (wr ++ wc) pc lc st0 := by
  intro H locs ls hP hD hS hl T hT X
  have hA : ∀ q : Nat, H.size ≤ q → A q := fun q h => C.free q (Nat.le_trans hS.1 h)
  have hF := free2 hD hA
  rcases hr H locs ls hP hD hS hl T hT X with ⟨v, st₀, t, T', L, h0, X', hL, e1, e2, ⟨⟨v2, ws2, hv, hp, hP2, hD2⟩, hF2⟩, stp⟩ | ⟨q, st₀, t, T', L, E, ce, h0, X', hL, e1, e2, ⟨ws2, hp, hP2, hD2, hF2⟩, hce, hcv, hcl, stp⟩
  · cases hv
    obtain ⟨k1, k2, k3⟩ := vx_keep h0 e1 hS (fun q _ h => hF q h) hF hL hF2
    obtain ⟨j1, j2⟩ := join2 hP hD hA k2 (by rw [e1]; exact hP2) hD2
    obtain ⟨t2, a1, b1⟩ := kk v ws2 hp T'.heap (locs ++ L) ls j1 j2 k3 hl T' rfl X'
    exact ⟨t2, stp t2 a1, b1⟩
  · obtain ⟨k1, k2, k3⟩ := vx_keep h0 e1 hS (fun q _ h => hF q h) hF hL hF2
    obtain ⟨j1, j2⟩ := join2 hP hD hA k2 (by rw [e1]; exact hP2) hD2
    obtain ⟨t2, a1, b1⟩ := kx E ws2 hp T'.heap (locs ++ L) ls q ce j1 j2 k3 hl (by rw [e1]; exact hce) hcv hcl T' rfl X'
    exact ⟨t2, stp.trans a1, b1⟩
theorem Cx.pre (C : Cx D cy sa own cc nL ret A p l s m args meth c) {wr wc : va_W} {H : Heap} {locs : List Loc} (hP : va_P D vwCl (wr ++ wc) H) (hD : va_D A (wr ++ wc)) (hS : va_S A s.heap H locs) {U : State} (hU : U.heap = H) (hW : s.WarmedH U.vm) : preC D cy sa wc H.size U := by
  have hA : ∀ q : Nat, H.size ≤ q → A q := fun q h => C.free q (Nat.le_trans hS.1 h)
  obtain ⟨h1, h2⟩ := part2 hP hD
  refine ⟨by rw [hU], by rw [hU]; exact h1, h2, ?_⟩
  rw [hU]
  exact ((C.ev.kept hS.2.1).narrow (free2 hD hA)).warm hW
/-- the links of a call -/
def LkV (own : String) (idx : Nat) (Cn : String) (y : MethodName) (bytes : ByteArray) (maxL : Nat) (rt : Option FieldType) (na : Nat) : Prop :=
  Cond.methodLink own idx y ∈ GW ∧ Cond.instanceMethod y ∈ GW ∧ Cond.selects Cn y y ∈ GW ∧ Cond.initialized y.cls ∈ GW ∧ Cond.code y bytes maxL rt ∈ GW ∧ (y.cls ≠ "java/lang/invoke/MethodHandle" ∧ y.cls ≠ "java/lang/invoke/VarHandle" ∧ (parseMethodDescriptor y.desc).map (fun d => d.parameters.length) = some na)
def LkS (own : String) (idx : Nat) (y : MethodName) (bytes : ByteArray) (maxL : Nat) (rt : Option FieldType) (na : Nat) : Prop :=
  Cond.methodLink own idx y ∈ GW ∧ Cond.static y ∈ GW ∧ Cond.initialized y.cls ∈ GW ∧ Cond.code y bytes maxL rt ∈ GW ∧ (y.cls ≠ "java/lang/invoke/MethodHandle" ∧ y.cls ≠ "java/lang/invoke/VarHandle" ∧ (parseMethodDescriptor y.desc).map (fun d => d.parameters.length) = some na)
def LkI (own : String) (idx : Nat) (y : MethodName) (bytes : ByteArray) (maxL : Nat) (na : Nat) : Prop :=
  Cond.methodLink own idx y ∈ GW ∧ Cond.instanceMethod y ∈ GW ∧ Cond.initialized y.cls ∈ GW ∧ Cond.code y bytes maxL none ∈ GW ∧ y.name = "<init>" ∧ (y.cls ≠ "java/lang/invoke/MethodHandle" ∧ y.cls ≠ "java/lang/invoke/VarHandle" ∧ (parseMethodDescriptor y.desc).map (fun d => d.parameters.length) = some na)
variable {y : MethodName} {ccy : ByteArray} {maxL na lev idx : Nat} {rt : Option FieldType} {As : List Value} {st0 : List Value} {b : Nat} {wr wc : va_W}
theorem V.callV (C : Cx D cy sa own cc nL ret A p l s m args meth c) {Cn : String} (hk : LkV own idx Cn y ccy maxL rt na) (hM : Ct l D cy sa y ccy maxL rt lev mc ms wc (.ref b :: As) Po Px) (hw : ws = wr ++ wc)
    {ci N : Nat} {T : u_T} {fs : List Value} (q0 : Nat) (he : ws[q0]? = some (b, .inr (ci, fs))) (hc : vwCl[ci]? = some (Cn, T, N)) (hs : st0 = As.reverse ++ .ref b :: st) (hn : As.length = na) (hW : (st.map fun v => v.category).sum ≤ 8)
    (hR : lev + 1 ≤ R.frames ∧ 8 + (maxL + 11) + 37 * lev ≤ R.locals) (hf : k + mc ≤ R.cells ∧ n + ms ≤ R.slots) (d : decode cc pc = .ok (.invokevirtual idx, 3))
    (kx : ∀ (E : String) (ws2 : va_W), Px E ws2 → VX D nL A p l e R s m args below meth c Q (k + mc) (n + ms) (wr ++ ws2) pc lc st E)
    (kk : ∀ (v : Option Value) (ws2 : va_W), Po v ws2 → V D nL A p l e R s m args below meth c Q (k + mc) (n + ms) (wr ++ ws2) (pc + 3) lc (v.toList ++ st)) : V D nL A p l e R s m args below meth c Q k n ws pc lc st0 := by
  subst hw
  refine V.run (a := (Value.ref b :: As).toArray) C (fun H locs ls hP hD hS hl => ?_) kx kk
  obtain ⟨g1, g2, g3, g4, g5, g6⟩ := hk
  exact vx_runV ⟨C.exec, C.bytes, C.locals, C.ow, C.hts⟩ (hM H.size) ⟨callB_of na C.hts (gw_ct g5) rfl rfl rfl (C.hts _ g4) (C.hts _ g1) g6 hR, C.hts _ g2, C.hts _ g3⟩ ⟨preC.blind, va_recv C.ev.1 hP hc he, fun U hU hW9 => ⟨rfl, C.pre hP hD hS hU hW9⟩⟩ rfl hn hl.1 hs (lv_room hW) d hf
theorem V.callS (C : Cx D cy sa own cc nL ret A p l s m args meth c) (hk : LkS own idx y ccy maxL rt na) (hM : Ct l D cy sa y ccy maxL rt lev mc ms wc As Po Px) (hw : ws = wr ++ wc)
    (hs : st0 = As.reverse ++ st) (hn : As.length = na) (hW : (st.map fun v => v.category).sum ≤ 8)
    (hR : lev + 1 ≤ R.frames ∧ 8 + (maxL + 11) + 37 * lev ≤ R.locals) (hf : k + mc ≤ R.cells ∧ n + ms ≤ R.slots) (d : decode cc pc = .ok (.invokestatic idx, 3))
    (kx : ∀ (E : String) (ws2 : va_W), Px E ws2 → VX D nL A p l e R s m args below meth c Q (k + mc) (n + ms) (wr ++ ws2) pc lc st E)
    (kk : ∀ (v : Option Value) (ws2 : va_W), Po v ws2 → V D nL A p l e R s m args below meth c Q (k + mc) (n + ms) (wr ++ ws2) (pc + 3) lc (v.toList ++ st)) : V D nL A p l e R s m args below meth c Q k n ws pc lc st0 := by
  subst hw
  refine V.run (a := As.toArray) C (fun H locs ls hP hD hS hl => ?_) kx kk
  obtain ⟨g1, g2, g3, g4, g5⟩ := hk
  exact vx_runS ⟨C.exec, C.bytes, C.locals, C.ow, C.hts⟩ (hM H.size) ⟨callB_of na C.hts (gw_ct g4) rfl rfl rfl (C.hts _ g3) (C.hts _ g1) g5 hR, C.hts _ g2⟩ ⟨preC.blind, fun U hU hW9 => ⟨rfl, C.pre hP hD hS hU hW9⟩⟩ rfl hn hl.1 hs (lv_room hW) d hf
theorem V.callI (C : Cx D cy sa own cc nL ret A p l s m args meth c) (hk : LkI own idx y ccy maxL na) (hM : Ct l D cy sa y ccy maxL none lev mc ms wc (.ref b :: As) Po Px) (hw : ws = wr ++ wc)
    (hs : st0 = As.reverse ++ .ref b :: st) (hn : As.length = na) (hW : (st.map fun v => v.category).sum ≤ 8)
    (hR : lev + 1 ≤ R.frames ∧ 8 + (maxL + 11) + 37 * lev ≤ R.locals) (hf : k + mc ≤ R.cells ∧ n + ms ≤ R.slots) (d : decode cc pc = .ok (.invokespecial idx, 3))
    (kx : ∀ (E : String) (ws2 : va_W), Px E ws2 → VX D nL A p l e R s m args below meth c Q (k + mc) (n + ms) (wr ++ ws2) pc lc st E)
    (kk : ∀ (v : Option Value) (ws2 : va_W), Po v ws2 → V D nL A p l e R s m args below meth c Q (k + mc) (n + ms) (wr ++ ws2) (pc + 3) lc (v.toList ++ st)) : V D nL A p l e R s m args below meth c Q k n ws pc lc st0 := by
  subst hw
  refine V.run (a := (Value.ref b :: As).toArray) C (fun H locs ls hP hD hS hl => ?_) kx kk
  obtain ⟨g1, g2, g3, g4, g5, g6⟩ := hk
  exact vx_runI ⟨C.exec, C.bytes, C.locals, C.ow, C.hts⟩ (hM H.size) ⟨callB_of na C.hts (gw_ct g4) rfl rfl rfl (C.hts _ g3) (C.hts _ g1) g6 hR, g5, C.hts _ g2⟩ ⟨preC.blind, fun U hU hW9 => ⟨rfl, C.pre hP hD hS hU hW9⟩⟩ rfl hn hl.1 hs (lv_room hW) d hf
/-- the nest mate's static call of isDay -/
theorem V.callN (C : Cx D cy sa own cc nL ret A p l s m args meth c) (hq : (own, idx) ∈ xNest) (hM : Ct l D cy sa yX2_isDay cX2_isDay 1 (some .boolean) lev mc ms wc As Po Px) (hw : ws = wr ++ wc)
    (hs : st0 = As.reverse ++ st) (hn : As.length = 1) (hW : (st.map fun v => v.category).sum ≤ 8)
    (hR : lev + 1 ≤ R.frames ∧ 8 + (1 + 11) + 37 * lev ≤ R.locals) (hf : k + mc ≤ R.cells ∧ n + ms ≤ R.slots) (d : decode cc pc = .ok (.invokestatic idx, 3))
    (kx : ∀ (E : String) (ws2 : va_W), Px E ws2 → VX D nL A p l e R s m args below meth c Q (k + mc) (n + ms) (wr ++ ws2) pc lc st E)
    (kk : ∀ (v : Option Value) (ws2 : va_W), Po v ws2 → V D nL A p l e R s m args below meth c Q (k + mc) (n + ms) (wr ++ ws2) (pc + 3) lc (v.toList ++ st)) : V D nL A p l e R s m args below meth c Q k n ws pc lc st0 := by
  subst hw
  refine V.run (a := As.toArray) C (fun H locs ls hP hD hS hl => ?_) kx kk
  exact vx_runSN (host := RX2) ⟨C.exec, C.bytes, C.locals, C.ow, C.hts⟩ (hM H.size) ⟨va_cnB 1 C.hts (gw_ct co_X2_isDay) rfl rfl rfl (C.ev.2.2.2.1 _ hq) (C.hts _ in_X2) (by decide +kernel) hR, C.hts _ st_X2_isDay, trivial⟩ ⟨preC.blind, fun U hU hW9 => ⟨rfl, C.pre hP hD hS hU hW9⟩⟩ rfl hn hl.1 hs (lv_room hW) d hf
end CALLS
end
section
def xNames : List String := ["java/lang/RuntimeException", "java/lang/Exception"]
def xB : List Cond := (xDecl.map fun q => .declares (Bundle.initS q)) ++ xCast.map fun q => .castable q q
theorem at_IOOBE : ∀ w ∈ (vx_atS RX2 188 "java/lang/IndexOutOfBoundsException" xNames).filter goodWord, w ∈ GW := gw_ps [39, 206, 215, 220, 223, 225, 207, 208, 59, 60, 209, 214, 221, 241, 196, 242, 198, 243, 200, 210, 212, 202, 237, 238, 240, 202, 228, 229, 230, 231, 231, 232, 233, 234, 234, 235, 236, 237, 227, 185, 193, 194, 195, 197, 199, 201, 205, 204, 203] (by decide +kernel) (by decide +kernel)
theorem ab_IOOBE : ∀ w ∈ (vx_atS RX2 188 "java/lang/IndexOutOfBoundsException" xNames).filter (fun w => !goodWord w), w ∈ xB := by decide +kernel
theorem ag_IOOBE : ∀ w ∈ Cond.classLink RX2 184 "java/lang/IndexOutOfBoundsException" :: Cond.initialized "java/lang/IndexOutOfBoundsException" :: vx_atS RX2 188 "java/lang/IndexOutOfBoundsException" xNames, vx_ot w = true := by decide +kernel
theorem at_IAE : ∀ w ∈ (vx_atS RX2 193 "java/lang/IllegalArgumentException" xNames).filter goodWord, w ∈ GW := gw_ps [39, 206, 215, 220, 223, 225, 207, 208, 59, 60, 209, 214, 221, 241, 196, 242, 198, 243, 200, 210, 212, 202, 237, 238, 240, 202, 305, 306, 307, 231, 231, 232, 233, 234, 234, 235, 236, 237, 304, 295, 297, 217, 298, 299, 300, 301, 205, 204, 302] (by decide +kernel) (by decide +kernel)
theorem ab_IAE : ∀ w ∈ (vx_atS RX2 193 "java/lang/IllegalArgumentException" xNames).filter (fun w => !goodWord w), w ∈ xB := by decide +kernel
theorem ag_IAE : ∀ w ∈ Cond.classLink RX2 189 "java/lang/IllegalArgumentException" :: Cond.initialized "java/lang/IllegalArgumentException" :: vx_atS RX2 193 "java/lang/IllegalArgumentException" xNames, vx_ot w = true := by decide +kernel
theorem at_ISE : ∀ w ∈ (vx_atS RX2 68 "java/lang/IllegalStateException" xNames).filter goodWord, w ∈ GW := gw_ps [39, 206, 215, 220, 223, 225, 207, 208, 59, 60, 209, 214, 221, 241, 196, 242, 198, 243, 200, 210, 212, 202, 237, 238, 240, 202, 333, 334, 335, 231, 231, 232, 233, 234, 234, 235, 236, 237, 332, 323, 325, 218, 326, 327, 328, 329, 205, 204, 330] (by decide +kernel) (by decide +kernel)
theorem ab_ISE : ∀ w ∈ (vx_atS RX2 68 "java/lang/IllegalStateException" xNames).filter (fun w => !goodWord w), w ∈ xB := by decide +kernel
theorem ag_ISE : ∀ w ∈ Cond.classLink RX2 64 "java/lang/IllegalStateException" :: Cond.initialized "java/lang/IllegalStateException" :: vx_atS RX2 68 "java/lang/IllegalStateException" xNames, vx_ot w = true := by decide +kernel
def ns_at (own : String) (ic : Nat) (X Y : String) (r : List String) (ix : Nat) (rx : ByteArray) : List Cond :=
  Bundle.throwableAtoms ++ Bundle.throwableSAtoms ++ (Bundle.passSAtoms X Y ix rx ++ Bundle.chainSAtoms Y r) ++
  [.methodLink own ic (Bundle.initS X), .instantiable X 6, .castable X X, .selects X Bundle.tFill0 Bundle.tFill0, .selects X Bundle.tFill Bundle.tFill,
   .lays X Bundle.tN "cause" "Ljava/lang/Throwable;", .lays X Bundle.tN "stackTrace" Bundle.steD, .lays X Bundle.tN "suppressedExceptions" Bundle.listD, .lays X Bundle.tN "detailMessage" "Ljava/lang/String;",
   .isRef (.static Bundle.tN "UNASSIGNED_STACK" Bundle.steD), .isRef (.static Bundle.tN "SUPPRESSED_SENTINEL" Bundle.listD),
   .fieldLink Bundle.tN 198 Bundle.tN "backtrace" "Ljava/lang/Object;", .lays Bundle.tN Bundle.tN "backtrace" "Ljava/lang/Object;", .lays X Bundle.tN "backtrace" "Ljava/lang/Object;"]
theorem ns_chain {args : Array Value} {s : State} {pl : Platform} (hpl : pl.magicAccessors = ({} : Platform).magicAccessors) {top : MethodId} (htop : s.methodNamed? (Bundle.initS Bundle.tN) = some top)
    {ix : Nat} {rx : ByteArray} (x0 : decode rx 0 = .ok (.aload_n 0, 1)) (x1 : decode rx 1 = .ok (.aload_n 1, 1)) (x2 : decode rx 2 = .ok (.invokespecial ix, 3)) (x5 : decode rx 5 = .ok (.return_, 1))
    (X Y : String) (r : List String) (hX : Bundle.fit X = true) (hn : ∀ n ∈ Y :: r, Bundle.fit n = true) (h : ∀ c ∈ Bundle.passSAtoms X Y ix rx ++ Bundle.chainSAtoms Y r, c.before args s = true) :
    ∃ (P1 : PassC) (Ps : List PassC), Ps.length = (Y :: r).length ∧ P1.LinksS pl s ∧ (∀ P, P ∈ Ps → P.LinksS pl s) ∧ s.methodNamed? (Bundle.initS X) = some P1.m ∧ P1.sup = firstOf top (Ps.map (·.toPassT)) ∧ PassesOn top (Ps.map (·.toPassT)) := by
  obtain ⟨P, L, hm, hs⟩ := PassC.ofS_atoms (args := args) (s := s) hpl (X := X) (Y := Y) (Bundle.fit_spec hX).1 (Bundle.fit_spec (hn Y List.mem_cons_self)).2 x0 x1 x2 x5 (fun c hc => h c (List.mem_append_left _ hc))
  obtain ⟨P2, Ps, hlen, L2, hL, hm2, hsup, hpass⟩ := Bundle.chainS (args := args) hpl htop r Y (hn Y List.mem_cons_self) (fun n hn2 => hn n (List.mem_cons_of_mem _ hn2)) (fun c hc => h c (List.mem_append_right _ hc))
  refine ⟨P, P2 :: Ps, by simp [hlen], L, ?_, hm, Option.some.inj (hs.symm.trans hm2), hsup, hpass⟩
  intro Q hQ
  rcases List.mem_cons.mp hQ with rfl | hQ
  · exact L2
  · exact hL Q hQ
section NSA
variable {p : Program} {l : Launch} {e : Env} {R : Room} {s : State} {m₀ : MethodId} {args : Array Value} {below : List Frame} {meth : Method} {c : Code} {W : State} {locs : List Loc} {cells slots : Nat}
set_option maxHeartbeats 1000000 in
theorem ns_made (X : Stand p l e R s m₀ args below meth c W locs cells slots) (hexec : p.tables.exec = Jvm.exec) (htr : e.platform.stackTraces = false) {own cls : String} {Y0 : String} {r0 : List String} {ic ix0 : Nat} {rx0 : ByteArray} (x0 : decode rx0 0 = .ok (.aload_n 0, 1)) (x1 : decode rx0 1 = .ok (.aload_n 1, 1)) (x2 : decode rx0 2 = .ok (.invokespecial ix0, 3)) (x5 : decode rx0 5 = .ok (.return_, 1))
    (hown : s.vm.findClass own = some m₀.cls) (hcls : Bundle.fit cls = true) (hnames : ∀ n ∈ Y0 :: r0, Bundle.fit n = true)
    (h : ∀ a ∈ ns_at own ic cls Y0 r0 ix0 rx0, a.before args s = true)
    (hlocs : ∀ x ∈ locs, ∀ cell, s.heap[x.base]? = some cell → cell.vm.isStatics = false)
    {a : Addr} {cX : ClassId} {kX : Class} (hfoundX : s.vm.findClass cls = some cX) (hkX : s.vm.classes[cX]? = some kX) (hcell : W.heap[a]? = some (freshCell cX kX)) (hnew : s.heap.size ≤ a)
    {msg : Value} (hmsg : msg.isRef = true)
    {g : JFrame} (hg : g.method = m₀) (hsize : g.locals.size = c.maxLocals) {rest : List Value} (hstack : g.stack = msg :: .ref a :: .ref a :: rest)
    (hd6 : decode c.code g.pc = .ok (.invokespecial ic, 3))
    (hRframes : (Y0 :: r0).length + 3 < R.frames) (hRlocals : 2 * g.monitorRoom + ((Value.ref a :: rest).map fun v => v.category).sum + (13 * ((Y0 :: r0).length + 1) + 42) ≤ R.locals) :
    ∃ (V : State) (ce : Cell) (L : List Loc), Stand p l e R s m₀ args below meth c (V.setCell a ce) (locs ++ L) cells slots ∧ (∀ y ∈ L, y.base = a) ∧ a < V.heap.size ∧ ce.cls = cX ∧ ce.vm = .none ∧
      ∀ target, Steps p.tables e below ((V.setCell a ce).setTop { g with stack := .ref a :: rest, pc := g.pc + 3 }) target → Steps p.tables e below (W.setTop g) target := by
  have howns : e.platform.frameOwnsMonitors = true := by rw [X.admits.platform]
  have hfin : e.platform.finalization = false := by rw [X.admits.platform]
  have hpl : e.platform.magicAccessors = ({} : Platform).magicAccessors := by rw [X.admits.platform]
  have a' : ∀ x, x ∈ ns_at own ic cls Y0 r0 ix0 rx0 → x.holds args s none s [] = true := fun x hx => h x hx
  obtain ⟨T, Z0, L, -, Y⟩ := ThrowableC.of_atoms (args := args) howns hfin hpl (fun x hx => h x (by simp [ns_at, hx]))
  obtain ⟨Z, M, LZ, LM, hnZ⟩ := Init0T.ofS_atoms (args := args) hpl L Y (fun x hx => h x (by simp [ns_at, hx]))
  obtain ⟨P1, Ps, hlen, L1, hL, hP1m, hlink1, hlink⟩ := ns_chain (args := args) hpl hnZ x0 x1 x2 x5 cls Y0 r0 hcls hnames (fun x hx => h x (List.mem_append_left _ (List.mem_append_right _ hx)))
  have hfound : s.vm.findClass cls = some P1.m.cls := findClass_of_methodNamed hP1m
  cases Option.some.inj (hfoundX.symm.trans hfound)
  obtain ⟨c1, kX', hc1, hk, hord, -, -, hn6⟩ := Cond.instantiable_spec (a' (.instantiable cls 6) (by simp [ns_at]))
  cases Option.some.inj (hc1.symm.trans hfound)
  cases Option.some.inj (hkX.symm.trans hk)
  have hsel0 : selectMethod e.platform s.vm P1.m.cls T.fill0 = .method T.fill0 := by
    obtain ⟨c2, r2, m2, q1, q2, q3, q4, -⟩ := Cond.selects_spec (a' (.selects cls Bundle.tFill0 Bundle.tFill0) (by simp [ns_at]))
    cases Option.some.inj (q1.symm.trans hfound)
    cases Option.some.inj (q2.symm.trans (State.methodFound?_of_named Y.fill0 (by decide)))
    cases Option.some.inj (q3.symm.trans Y.fill0)
    rw [Launch.admits_selectMethod X.admits]; exact q4
  have hselF : selectMethod e.platform s.vm P1.m.cls T.fill = .method T.fill := by
    obtain ⟨c2, r2, m2, q1, q2, q3, q4, -⟩ := Cond.selects_spec (a' (.selects cls Bundle.tFill Bundle.tFill) (by simp [ns_at]))
    cases Option.some.inj (q1.symm.trans hfound)
    cases Option.some.inj (q2.symm.trans (State.methodFound?_of_named Y.fill (by decide)))
    cases Option.some.inj (q3.symm.trans Y.fill)
    rw [Launch.admits_selectMethod X.admits]; exact q4
  obtain ⟨cellS0, hcS0, hiss⟩ := Y.statics
  obtain ⟨u0, hu0⟩ := Cond.staticRefV Y.unassigned L.unassignedStatic L.statics hcS0 hiss (a' (.isRef (.static Bundle.tN "UNASSIGNED_STACK" Bundle.steD)) (by simp [ns_at]))
  obtain ⟨sen, hsen⟩ := Cond.staticRefV Y.sentinel L.sentinelStatic L.statics hcS0 hiss (a' (.isRef (.static Bundle.tN "SUPPRESSED_SENTINEL" Bundle.listD)) (by simp [ns_at]))
  obtain ⟨ci198, i198, fB, hk198, hg198, ha198, hsB, -, hnB, htB, hffB⟩ := Cond.ownField (t := .object "java/lang/Object") Y.found L.cls (by decide +kernel) (a' (.fieldLink Bundle.tN 198 Bundle.tN "backtrace" "Ljava/lang/Object;") (by simp [ns_at])) (a' (.lays Bundle.tN Bundle.tN "backtrace" "Ljava/lang/Object;") (by simp [ns_at])) e.platform hpl
  obtain ⟨cellS, hcS', heS, -, hkeep⟩ := X.same.2.2.2.2.2 T.aS cellS0 hcS0
  have hcellS : W.heap[T.aS]? = some cellS := hcS'
  have hout' : ∀ i, (⟨T.aS, i⟩ : Loc) ∉ locs := fun i hmem => by
    have := hlocs _ hmem cellS0 hcS0
    rw [hiss] at this; cases this
  have hknownS : cellS.vm ≠ .unknown := by
    rw [heS]; intro hu
    rw [show cellS0.vm = .unknown from hu] at hiss
    cases hiss
  have hneS : T.aS ≠ a := Nat.ne_of_lt (Nat.lt_of_lt_of_le (Array.getElem?_eq_some_iff.mp hcS0).1 hnew)
  obtain ⟨iM, hffM⟩ := Y.msg
  obtain ⟨tyC, dC, hdC, hdnC⟩ := Cond.laysAt hfound hk Y.cause (a' (.lays cls Bundle.tN "cause" "Ljava/lang/Throwable;") (by simp [ns_at]))
  obtain ⟨tyS, dS, hdS, hdnS⟩ := Cond.laysAt hfound hk Y.stack (a' (.lays cls Bundle.tN "stackTrace" Bundle.steD) (by simp [ns_at]))
  obtain ⟨tyP, dP, hdP, hdnP⟩ := Cond.laysAt hfound hk Y.supp (a' (.lays cls Bundle.tN "suppressedExceptions" Bundle.listD) (by simp [ns_at]))
  obtain ⟨tyM, dM, hdM, hdnM⟩ := Cond.laysAt hfound hk hffM (a' (.lays cls Bundle.tN "detailMessage" "Ljava/lang/String;") (by simp [ns_at]))
  obtain ⟨tyB, dB, hdB, hdnB⟩ := Cond.laysAt hfound hk hffB (a' (.lays cls Bundle.tN "backtrace" "Ljava/lang/Object;") (by simp [ns_at]))
  have bC := Cond.laysApart hdB hdC hdnB hdnC (by rw [hnB, Y.causeName]; decide)
  have bS := Cond.laysApart hdB hdS hdnB hdnS (by rw [hnB, Y.stackName]; decide)
  have bP := Cond.laysApart hdB hdP hdnB hdnP (by rw [hnB, Y.suppName]; decide)
  have hskip : SkipFacts T e.platform s (fun u => u) u0 ((preparedCellV T.toThrowableT (freshCell P1.m.cls kX) a u0 sen).withEntry W.cur) :=
    ⟨{ ci198 := ci198, i198 := i198, fBack := fB }, ⟨hk198, hg198, ha198, hsB⟩, by
      have := fresh_default (c := P1.m.cls) tyB
      rw [htB] at this
      simpa [preparedCellV, Cell.setSlot, Cell.withEntry, Array.getElem?_setIfInBounds, bC, bS, bP, bC.symm, bS.symm, bP.symm, defaultValue] using this, fun _ _ => rfl⟩
  obtain ⟨tm, methC, cdC, kC, vm₁, hnC, -, -, -, -, -, -, -, hW₁, st1⟩ := Steps.initColdS (tb := p.tables) (e := e) (below := below) (s := s) (U := W) X.here hexec X.warmed hpl hown (t := Bundle.initS cls) rfl rfl (Bundle.fit_spec hcls).2
    (a' (.methodLink own ic (Bundle.initS cls)) (by simp [ns_at])) (h (.instanceMethod (Bundle.initS cls)) (by simp [ns_at, Bundle.passSAtoms])) (bytes := rx0) (maxL := 2) (h (.code (Bundle.initS cls) rx0 2 none) (by simp [ns_at, Bundle.passSAtoms]))
    (f := g) hg (a := a) (msg := msg) (rest := .ref a :: rest) hstack hd6
  cases Option.some.inj (hnC.symm.trans hP1m)
  have X₁ := X.noted hW₁
  obtain ⟨vm₂, X₂, st2⟩ := X₁.ctorMessageOffV hexec (g := { g with stack := .ref a :: rest }) hg hsize T L Z LZ M LM (P1 :: Ps)
    (fun P hP => by rcases List.mem_cons.mp hP with rfl | hP; exact L1; exact hL P hP) ⟨hlink1, hlink⟩ (u0 := u0) (sen := sen) (self := a) hmsg (cell := freshCell P1.m.cls kX) (cellS := cellS)
    hcell (fun _ => by simp) (by simp) rfl rfl hsel0 hselF hcellS hneS hknownS (by rw [hkeep _ (hout' _)]; exact hu0) (by rw [hkeep _ (hout' _)]; exact hsen)
    (Takes.of_laid hk hord tyC (by rw [Y.causeType]; rfl)) (Takes.of_laid hk hord tyS (by rw [Y.stackType]; exact fits_refV_array _ u0)) (Takes.of_laid hk hord tyP (by rw [Y.suppType]; exact fits_refV_object _ sen))
    (Takes.of_laid hk hord tyM (by rw [Y.msgType]; exact fits_refV_object _ ⟨msg, hmsg⟩)) Y.objLocals hskip htr [] hd6
    (by simp only [List.length_cons, hlen]; omega) (by simp only [List.length_cons, hlen]; exact hRlocals)
  have hlt : a < ((W.setVm vm₁).setVm vm₂).heap.size := (Array.getElem?_eq_some_iff.mp hcell).1
  refine ⟨(W.setVm vm₁).setVm vm₂, _, _, X₂, fun y hy => ?_, hlt, rfl, rfl, fun target hwalk => st1 _ (fun acts => ?_)⟩
  · simp only [List.mem_cons, List.not_mem_nil, or_false] at hy
    rcases hy with rfl | rfl | rfl | rfl | rfl <;> rfl
  · rw [doInvoke_state]
    exact st2 _ hwalk
end NSA
section NSB
variable {p : Program} {l : Launch} {e : Env} {R : Room} {s : State} {m : MethodId} {args : Array Value} {below : List Frame} {meth : Method} {c : Code} {H : Heap} {locs : List Loc} {cells slots : Nat} {ls : Array Slot} {rest : List Value} {Q : State → Prop}
set_option maxHeartbeats 1000000 in
theorem ns_make {cc : ByteArray} {pc : Nat} (hexec : p.tables.exec = Jvm.exec) (hb : c.code = cc) (hl : l.stackTraces = false) {own cls text : String} {Y0 : String} {r0 : List String} {ik is ic sa ix0 : Nat} {rx0 : ByteArray} {A : Nat → Prop} (x0 : decode rx0 0 = .ok (.aload_n 0, 1)) (x1 : decode rx0 1 = .ok (.aload_n 1, 1)) (x2 : decode rx0 2 = .ok (.invokespecial ix0, 3)) (x5 : decode rx0 5 = .ok (.return_, 1))
    (hown : s.vm.findClass own = some m.cls) (hcls : Bundle.fit cls = true) (hnames : ∀ n ∈ Y0 :: r0, Bundle.fit n = true)
    (hk : (Cond.classLink own ik cls).before args s = true) (hini : (Cond.initialized cls).before args s = true) (hstr : vk_R own is text sa s) (hat : ∀ w ∈ (ns_at own ic cls Y0 r0 ix0 rx0).filter vx_no, w.before args s = true)
    (hgood : ∀ w ∈ Cond.classLink own ik cls :: Cond.initialized cls :: (ns_at own ic cls Y0 r0 ix0 rx0).filter vx_no, vx_ot w = true)
    (hU : vx_Zq Bundle.tN "UNASSIGNED_STACK" Bundle.steD A s s.heap) (hN : vx_Zq Bundle.tN "SUPPRESSED_SENTINEL" Bundle.listD A s s.heap) (hS : va_S A s.heap H locs) (hsize : ls.size = c.maxLocals)
    (d0 : decode cc pc = .ok (.new ik, 3)) (d3 : decode cc (pc + 3) = .ok (.dup, 1)) (d4 : decode cc (pc + 4) = .ok (.ldc is, 2)) (d6 : decode cc (pc + 6) = .ok (.invokespecial ic, 3))
    (hRframes : (Y0 :: r0).length + 3 < R.frames) (hRlocals : (rest.map fun v => v.category).sum + (13 * ((Y0 :: r0).length + 1) + 43) ≤ R.locals) (hRcells : cells + 1 ≤ R.cells) (hRslots : slots + 6 ≤ R.slots)
    (kk : ∀ (q : Nat) (ce : Cell) (H1 : Heap), H1[q]? = some ce → ce.vm = .none → s.vm.findClass cls = some ce.cls → H.size ≤ H1.size → (∀ q2 : Nat, q2 < H.size → H1[q2]? = H[q2]?) → W p l e R s m args below meth c H1 locs (cells + 1) (slots + 6) Q (F0 m (pc + 9) ls (.ref q :: rest))) :
    W p l e R s m args below meth c H locs cells slots Q (F0 m pc ls rest) := by
  intro T hT X
  subst hT
  have htr : e.platform.stackTraces = false := (show e.platform.stackTraces = l.stackTraces by rw [X.admits.platform]).trans hl
  have Y := vx_rebase X (R' := { frames := R.frames, locals := R.locals, cells := 1, slots := 6 }) (Nat.le_refl _) (Nat.le_refl _) hRcells hRslots
  obtain ⟨s', hA'⟩ : ∃ z, z = (T.setVm s.vm).setFrames (.invoking m args :: below) := ⟨_, rfl⟩
  rw [← hA'] at Y
  have hvm : s'.vm = s.vm := by rw [hA']; rfl
  have hhp : s'.heap = T.heap := by rw [hA']; rfl
  have hW0 : s.WarmedH s'.vm := by rw [hvm]; exact State.WarmedH.refl s
  have hat' : ∀ w ∈ (ns_at own ic cls Y0 r0 ix0 rx0).filter vx_no, w.before args s' = true := fun w hw => vx_ot_at hW0 hvm.symm (hgood w (List.mem_cons_of_mem _ (List.mem_cons_of_mem _ hw))) (hat w hw)
  have hk' : (Cond.classLink own ik cls).before args s' = true := vx_ot_at hW0 hvm.symm (hgood _ List.mem_cons_self) hk
  have hini' : (Cond.initialized cls).before args s' = true := vx_ot_at hW0 hvm.symm (hgood _ (List.mem_cons_of_mem _ List.mem_cons_self)) hini
  have hU' : vx_Zq Bundle.tN "UNASSIGNED_STACK" Bundle.steD A s' s'.heap := by rw [hhp]; exact vx_Zq.moved hW0.alike (hU.kept hS.2.1)
  have hN' : vx_Zq Bundle.tN "SUPPRESSED_SENTINEL" Bundle.listD A s' s'.heap := by rw [hhp]; exact vx_Zq.moved hW0.alike (hN.kept hS.2.1)
  have h : ∀ w ∈ ns_at own ic cls Y0 r0 ix0 rx0, w.before args s' = true := vx_own hat' (vx_isRefq hU'.1) (vx_isRefq hN'.1) hU'.2.word hN'.2.word
  have hown' : s'.vm.findClass own = some m.cls := by rw [hvm]; exact hown
  have hins : (Cond.instantiable cls 6).before args s' = true := h _ (by simp [ns_at])
  obtain ⟨vm₁, cX, kX, hfX, hkX, -, -, X₁, st1⟩ := Y.newCold hexec (own := own) (C := cls) (index := ik) (n := 6) hown' hk' hins hini'
    (g := F0 m pc ls rest) rfl (by rw [hb]; exact d0) (Nat.le_refl _) (Nat.le_refl _)
  generalize hT1 : (T.setVm vm₁).pushCell { cls := cX, slots := kX.instanceTypes.map defaultValue, vm := .none } = T1 at X₁ st1
  have hcat : (Value.ref T.heap.size).category = 1 := rfl
  have hcellA : T1.heap[T.heap.size]? = some (freshCell cX kX) := by rw [← hT1]; exact State.heap_pushCell_size _ _
  have d3' : decode c.code (pc + 3) = .ok (.dup, 1) := by rw [hb]; exact d3
  have d4' : decode c.code (pc + 4) = .ok (.ldc is, 2) := by rw [hb]; exact d4
  have hstr' : vk_R own is text sa s' := vk_R.warm hW0 hstr
  obtain ⟨V, ce, L, Z, hL, hlt, hcl9, hvm9, st⟩ := ns_made X₁ hexec htr (own := own) (cls := cls) (Y0 := Y0) (r0 := r0) (ic := ic) x0 x1 x2 x5 hown' hcls hnames h (fun x hx => nomatch hx) hfX hkX hcellA (by rw [hhp]; exact Nat.le_refl _) (msg := .ref sa) rfl
    (g := { method := m, pc := pc + 6, locals := ls, stack := .ref sa :: .ref T.heap.size :: .ref T.heap.size :: rest, locked := none }) rfl hsize (rest := rest) rfl
    (by rw [hb]; exact d6) hRframes (by simp only [List.map_cons, List.sum_cons, hcat]; omega)
  have Z0 := Stand.forget (locs := []) Z (fun y hy => by rw [hL y hy, hhp]; exact Nat.le_refl _)
  obtain ⟨f1, f2⟩ := vx_frame Z0.same
  rw [hhp] at f1 f2
  have hcid : s.vm.findClass cls = some ce.cls := by
    rw [hcl9]
    rw [hvm] at hfX
    exact hfX
  have hh : (V.setCell T.heap.size ce).heap[T.heap.size]? = some ce := heapAt_setCell_self (s := V) ce hlt
  subst hA'
  have X5 := vx_back9 X Y Z0
  have X6 : Stand p l e R s m args below meth c (V.setCell T.heap.size ce) locs (cells + 1) (slots + 6) := { X5 with same := X5.same.mono (by omega) (by omega) }
  obtain ⟨t, a1, b1⟩ := kk T.heap.size ce (V.setCell T.heap.size ce).heap hh hvm9 hcid f1 (fun q h1 => f2 q h1 (fun z hz => nomatch hz)) _ rfl X6
  refine ⟨t, st1 _ ?_, b1⟩
  show Steps p.tables e below (T1.setTop { method := m, pc := pc + 3, locals := ls, stack := .ref T.heap.size :: rest, locked := none }) _
  jvm_step X₁.here [X₁.here.top, hexec, d3', Value.category]
  exact X₁.ldcString hexec (own := own) (text := text) (index := is) (a := sa) hown' hstr'.1 hstr'.2
    (g := { method := m, pc := pc + 4, locals := ls, stack := .ref T.heap.size :: .ref T.heap.size :: rest, locked := none }) rfl d4' _ (st _ a1)
end NSB
theorem at_NSEE : ∀ w ∈ ((ns_at RX2 137 "java/util/NoSuchElementException" "java/lang/RuntimeException" ["java/lang/Exception"] 13 prog_24_method_4_code).filter vx_no).filter goodWord, w ∈ GW := gw_ps [39, 206, 215, 220, 223, 225, 207, 208, 59, 60, 209, 214, 221, 241, 196, 242, 198, 243, 200, 210, 212, 202, 237, 238, 240, 202, 566, 567, 568, 231, 231, 232, 233, 234, 234, 235, 236, 237, 565, 556, 558, 219, 559, 560, 561, 562, 205, 204, 563] (by decide +kernel) (by decide +kernel)
theorem ab_NSEE : ∀ w ∈ ((ns_at RX2 137 "java/util/NoSuchElementException" "java/lang/RuntimeException" ["java/lang/Exception"] 13 prog_24_method_4_code).filter vx_no).filter (fun w => !goodWord w), w ∈ xB := by decide +kernel
theorem ag_NSEE : ∀ w ∈ Cond.classLink RX2 133 "java/util/NoSuchElementException" :: Cond.initialized "java/util/NoSuchElementException" :: (ns_at RX2 137 "java/util/NoSuchElementException" "java/lang/RuntimeException" ["java/lang/Exception"] 13 prog_24_method_4_code).filter vx_no, vx_ot w = true := by decide +kernel
theorem ns_d0 : decode prog_24_method_4_code 0 = .ok (.aload_n 0, 1) := by decide +kernel
theorem ns_d1 : decode prog_24_method_4_code 1 = .ok (.aload_n 1, 1) := by decide +kernel
theorem ns_d2 : decode prog_24_method_4_code 2 = .ok (.invokespecial 13, 3) := by decide +kernel
theorem ns_d5 : decode prog_24_method_4_code 5 = .ok (.return_, 1) := by decide +kernel
section THROWS
variable {p : Program} {l : Launch} {e : Env} {R : Room} {s : State} {m : MethodId} {args : Array Value} {below : List Frame} {meth : Method} {c : Code}
variable {D : va_G} {cy : Nat → ClassId} {sa : Nat → Addr} {cc : ByteArray} {nL : Nat} {ret : Option FieldType} {A : Nat → Prop} {k n : Nat} {ws : va_W} {pc : Nat} {lc : List (Nat × Value)} {st : List Value}
variable {Po : Option Value → va_W → Prop} {Px : String → va_W → Prop} {mc ms : Nat}
theorem Ev.xB {U : State} {H : Heap} (h : Ev D cy sa A U H) {a : Array Value} : ∀ w ∈ xB, w.before a U = true := by
  intro w hw
  obtain ⟨-, -, -, -, h6, h7, -⟩ := h
  rcases List.mem_append.mp hw with h | h
  · obtain ⟨q, hq, rfl⟩ := List.mem_map.mp h
    exact va_Nw.use rfl (h6 q hq)
  · obtain ⟨q, hq, rfl⟩ := List.mem_map.mp h
    exact va_Nw.use rfl (h7 q hq)
theorem V.throwS {cls text : String} {ik is ic : Nat} (C : Cx D cy sa RX2 cc nL ret A p l s m args meth c) (hex : ∀ x ∈ c.exceptionTable.toList, False)
    (hf : Bundle.fit cls = true) (hk : Cond.classLink RX2 ik cls ∈ GW) (hini : Cond.initialized cls ∈ GW) (ha : ∀ w ∈ (vx_atS RX2 ic cls xNames).filter goodWord, w ∈ GW) (hb : ∀ w ∈ (vx_atS RX2 ic cls xNames).filter (fun w => !goodWord w), w ∈ xB)
    (hg : ∀ w ∈ Cond.classLink RX2 ik cls :: Cond.initialized cls :: vx_atS RX2 ic cls xNames, vx_ot w = true) (i : Nat) (hi : strL[i]? = some (is, text))
    (d0 : decode cc pc = .ok (.new ik, 3)) (d3 : decode cc (pc + 3) = .ok (.dup, 1)) (d4 : decode cc (pc + 4) = .ok (.ldc is, 2)) (d6 : decode cc (pc + 6) = .ok (.invokespecial ic, 3)) (d9 : decode cc (pc + 9) = .ok (.athrow, 1))
    (hRf : 5 < R.frames) (hRl : (st.map fun v => v.category).sum + 82 ≤ R.locals) (hc : k + 1 ≤ mc) (hs : n + 6 ≤ ms) (hR : mc ≤ R.cells ∧ ms ≤ R.slots) (h : Px cls ws) :
    V D nL A p l e R s m args below meth c (vx_MQ below (Qo D Po A) (Xo D Px A) args s mc ms A) k n ws pc lc st := by
  intro H locs ls hP hD hS hl
  have hE := C.ev
  refine vx_throwS (names := xNames) C.exec C.bytes C.trace C.ow hf (by decide +kernel) (C.hts _ hk) (C.hts _ hini) (hE.2.2.1 i _ hi) (vx_hat (fun w hw => C.hts w (ha w hw)) hb hE.xB) hg hE.2.1.1 hE.2.1.2 hS (hl.1.trans C.locals.symm) d0 d3 d4 d6 d9 (fun x hx => (hex x hx).elim) hRf hRl (Nat.le_trans hc hR.1) (Nat.le_trans hs hR.2) C.locks (fun t hvm hz hq => ⟨ws, h, hP.kept fun j x hj => hq x.1 (hP j x hj).lt, hD, ?_⟩) hS.2.2 hc hs
  exact ⟨Nat.le_trans hS.1 hz, fun q h1 h2 => (hq q (Nat.lt_of_lt_of_le h1 hS.1)).trans (hS.2.1 q h1 h2)⟩
theorem V.throw_IOOBE (C : Cx D cy sa RX2 cc nL ret A p l s m args meth c) (hex : ∀ x ∈ c.exceptionTable.toList, False) {is : Nat} {text : String} (i : Nat) (hi : strL[i]? = some (is, text))
    (d0 : decode cc pc = .ok (.new 184, 3)) (d3 : decode cc (pc + 3) = .ok (.dup, 1)) (d4 : decode cc (pc + 4) = .ok (.ldc is, 2)) (d6 : decode cc (pc + 6) = .ok (.invokespecial 188, 3)) (d9 : decode cc (pc + 9) = .ok (.athrow, 1))
    (hRf : 5 < R.frames) (hRl : (st.map fun v => v.category).sum + 82 ≤ R.locals) (hc : k + 1 ≤ mc) (hs : n + 6 ≤ ms) (hR : mc ≤ R.cells ∧ ms ≤ R.slots) (h : Px "java/lang/IndexOutOfBoundsException" ws) :
    V D nL A p l e R s m args below meth c (vx_MQ below (Qo D Po A) (Xo D Px A) args s mc ms A) k n ws pc lc st :=
  V.throwS C hex (by decide +kernel) cl_X2_184 in_IndexOutOfBoundsException at_IOOBE ab_IOOBE ag_IOOBE i hi d0 d3 d4 d6 d9 hRf hRl hc hs hR h
theorem V.throw_IAE (C : Cx D cy sa RX2 cc nL ret A p l s m args meth c) (hex : ∀ x ∈ c.exceptionTable.toList, False) {is : Nat} {text : String} (i : Nat) (hi : strL[i]? = some (is, text))
    (d0 : decode cc pc = .ok (.new 189, 3)) (d3 : decode cc (pc + 3) = .ok (.dup, 1)) (d4 : decode cc (pc + 4) = .ok (.ldc is, 2)) (d6 : decode cc (pc + 6) = .ok (.invokespecial 193, 3)) (d9 : decode cc (pc + 9) = .ok (.athrow, 1))
    (hRf : 5 < R.frames) (hRl : (st.map fun v => v.category).sum + 82 ≤ R.locals) (hc : k + 1 ≤ mc) (hs : n + 6 ≤ ms) (hR : mc ≤ R.cells ∧ ms ≤ R.slots) (h : Px "java/lang/IllegalArgumentException" ws) :
    V D nL A p l e R s m args below meth c (vx_MQ below (Qo D Po A) (Xo D Px A) args s mc ms A) k n ws pc lc st :=
  V.throwS C hex (by decide +kernel) cl_X2_189 in_IllegalArgumentException at_IAE ab_IAE ag_IAE i hi d0 d3 d4 d6 d9 hRf hRl hc hs hR h
theorem V.throw_ISE (C : Cx D cy sa RX2 cc nL ret A p l s m args meth c) (hex : ∀ x ∈ c.exceptionTable.toList, False) {is : Nat} {text : String} (i : Nat) (hi : strL[i]? = some (is, text))
    (d0 : decode cc pc = .ok (.new 64, 3)) (d3 : decode cc (pc + 3) = .ok (.dup, 1)) (d4 : decode cc (pc + 4) = .ok (.ldc is, 2)) (d6 : decode cc (pc + 6) = .ok (.invokespecial 68, 3)) (d9 : decode cc (pc + 9) = .ok (.athrow, 1))
    (hRf : 5 < R.frames) (hRl : (st.map fun v => v.category).sum + 82 ≤ R.locals) (hc : k + 1 ≤ mc) (hs : n + 6 ≤ ms) (hR : mc ≤ R.cells ∧ ms ≤ R.slots) (h : Px "java/lang/IllegalStateException" ws) :
    V D nL A p l e R s m args below meth c (vx_MQ below (Qo D Po A) (Xo D Px A) args s mc ms A) k n ws pc lc st :=
  V.throwS C hex (by decide +kernel) cl_X2_64 in_IllegalStateException at_ISE ab_ISE ag_ISE i hi d0 d3 d4 d6 d9 hRf hRl hc hs hR h
theorem V.throw_NSEE (C : Cx D cy sa RX2 cc nL ret A p l s m args meth c) (hex : ∀ x ∈ c.exceptionTable.toList, False) {is : Nat} {text : String} (i : Nat) (hi : strL[i]? = some (is, text))
    (d0 : decode cc pc = .ok (.new 133, 3)) (d3 : decode cc (pc + 3) = .ok (.dup, 1)) (d4 : decode cc (pc + 4) = .ok (.ldc is, 2)) (d6 : decode cc (pc + 6) = .ok (.invokespecial 137, 3)) (d9 : decode cc (pc + 9) = .ok (.athrow, 1))
    (hRf : 5 < R.frames) (hRl : (st.map fun v => v.category).sum + 82 ≤ R.locals) (hc : k + 1 ≤ mc) (hs : n + 6 ≤ ms) (hR : mc ≤ R.cells ∧ ms ≤ R.slots) (h : Px "java/util/NoSuchElementException" ws) :
    V D nL A p l e R s m args below meth c (vx_MQ below (Qo D Po A) (Xo D Px A) args s mc ms A) k n ws pc lc st := by
  intro H locs ls hP hD hS hl
  have hE := C.ev
  refine ns_make (Y0 := "java/lang/RuntimeException") (r0 := ["java/lang/Exception"]) C.exec C.bytes C.trace ns_d0 ns_d1 ns_d2 ns_d5 C.ow (by decide +kernel) (by decide +kernel) (C.hts _ cl_X2_133) (C.hts _ in_NoSuchElementException) (hE.2.2.1 i _ hi) (vx_hat (fun w hw => C.hts w (at_NSEE w hw)) ab_NSEE hE.xB) ag_NSEE hE.2.1.1 hE.2.1.2 hS (hl.1.trans C.locals.symm) d0 d3 d4 d6 hRf hRl (Nat.le_trans hc hR.1) (Nat.le_trans hs hR.2) (fun q ce H1 g1 g2 g3 g4 g5 => ?_)
  refine vx_athrow C.exec C.bytes d9 (vx_out (fun x hx => (hex x hx).elim) C.locks g1 g2 g3 (fun t ht hvm => ⟨ws, h, ?_, hD, ?_⟩) hS.2.2 hc hs)
  · rw [ht]
    exact hP.kept fun j x hj => g5 x.1 (hP j x hj).lt
  · exact ⟨by rw [ht]; exact Nat.le_trans hS.1 g4, fun q2 h1 h2 => by rw [ht]; exact (g5 q2 (Nat.lt_of_lt_of_le h1 hS.1)).trans (hS.2.1 q2 h1 h2)⟩
end THROWS
end
section
/-! STATE: the class's cells and the reference's, as functions of their numbers -/
def upM (M : Nat → Int → Int) (k : Nat) (j v : Int) : Nat → Int → Int := fun a b => if a = k ∧ b = j then v else M a b
theorem upM_s (M : Nat → Int → Int) (k : Nat) (j v : Int) : upM M k j v k j = v := by simp [upM]
theorem upM_n {M : Nat → Int → Int} {k a : Nat} {j b v : Int} (h : a ≠ k ∨ b ≠ j) : upM M k j v a b = M a b := by
  have h2 : ¬ (a = k ∧ b = j) := by rcases h with h | h <;> simp [h]
  simp [upM, h2]
def cN (n : Nat) : Nat := if n = 0 then 7 else 8 + 2 * n
abbrev arZ (cy : Nat → ClassId) (L : Nat) (f : Int → Int) : va_E := .inl (cy 1, L, .inl (fun j => zI (f j)))
abbrev arI (cy : Nat → ClassId) (L : Nat) (f : Int → Int) : va_E := .inl (cy 0, L, .inl (fun j => zI (f j)))
def ruleF (ad : Nat → Nat) (M : Nat → Int → Int) (k : Nat) : List Value := [vi (M k 0), vi (M k 1), vi (M k 2), vi (M k 3), vi (M k 4), vi (M k 5), vi (M k 6), vi (M k 7), vi (M k 8), vi (M k 9), vi (M k 10), .ref (ad (k + 1))]
def elF (ad : Nat → Nat) (n : Nat) : Nat → Option Nat := fun j => if j < n then some (ad (8 + 2 * j)) else none
def ce (cy : Nat → ClassId) (e0 : Nat) (ad : Nat → Nat) (n : Nat) (M : Nat → Int → Int) (k : Nat) : va_E :=
  if k = 0 then .inr (3, [.ref (ad 1), .ref (ad 5), vi (M 0 2), .ref (ad 6)])
  else if k = 1 then .inr (1, [.ref (ad 2), .ref (ad 3), .ref (ad 4)])
  else if k = 2 then arZ cy 720 (M 2)
  else if k = 3 then arI cy 720 (M 3)
  else if k = 4 then arI cy 720 (M 4)
  else if k = 5 then .inr (0, [vi (M 5 0), .ref (if n = 0 then e0 else ad 7), vi (n : Int)])
  else if k = 6 then arI cy 720 (M 6)
  else if k = 7 then .inl (cy 2, 10, .inr (.inr (.inr (.inr (elF ad n)))))
  else if k % 2 = 0 then .inr (2, ruleF ad M k)
  else arZ cy 720 (M k)
def cl (cy : Nat → ClassId) (e0 : Nat) (ad : Nat → Nat) (n : Nat) (M : Nat → Int → Int) : va_W := (List.range (cN n)).map fun k => (ad k, ce cy e0 ad n M k)
section CL
variable {cy : Nat → ClassId} {e0 : Nat} {ad : Nat → Nat} {n : Nat} {M : Nat → Int → Int}
theorem cl_get {k : Nat} (h : k < cN n) : (cl cy e0 ad n M)[k]? = some (ad k, ce cy e0 ad n M k) := by simp [cl, h]
theorem cN_7 {k : Nat} (h : k < 7) : k < cN n := by unfold cN; split <;> omega
theorem cN_r {i : Nat} (h : i < n) : 8 + 2 * i < cN n := by unfold cN; split <;> omega
theorem cN_d {i : Nat} (h : i < n) : 8 + 2 * i + 1 < cN n := by unfold cN; split <;> omega
theorem cl_0 : (cl cy e0 ad n M)[0]? = some (ad 0, .inr (3, [.ref (ad 1), .ref (ad 5), vi (M 0 2), .ref (ad 6)])) := cl_get (cN_7 (by decide))
theorem cl_1 : (cl cy e0 ad n M)[1]? = some (ad 1, .inr (1, [.ref (ad 2), .ref (ad 3), .ref (ad 4)])) := cl_get (cN_7 (by decide))
theorem cl_2 : (cl cy e0 ad n M)[2]? = some (ad 2, arZ cy 720 (M 2)) := cl_get (cN_7 (by decide))
theorem cl_3 : (cl cy e0 ad n M)[3]? = some (ad 3, arI cy 720 (M 3)) := cl_get (cN_7 (by decide))
theorem cl_4 : (cl cy e0 ad n M)[4]? = some (ad 4, arI cy 720 (M 4)) := cl_get (cN_7 (by decide))
theorem cl_5 : (cl cy e0 ad n M)[5]? = some (ad 5, .inr (0, [vi (M 5 0), .ref (if n = 0 then e0 else ad 7), vi (n : Int)])) := cl_get (cN_7 (by decide))
theorem cl_6 : (cl cy e0 ad n M)[6]? = some (ad 6, arI cy 720 (M 6)) := cl_get (cN_7 (by decide))
theorem cl_7 (h : 0 < n) : (cl cy e0 ad n M)[7]? = some (ad 7, .inl (cy 2, 10, .inr (.inr (.inr (.inr (elF ad n)))))) := cl_get (by unfold cN; split <;> omega)
theorem ce_rule {i : Nat} : ce cy e0 ad n M (8 + 2 * i) = .inr (2, ruleF ad M (8 + 2 * i)) := by
  have h : (8 + 2 * i) % 2 = 0 := by omega
  simp only [ce, h, if_true]
  rw [if_neg (by omega), if_neg (by omega), if_neg (by omega), if_neg (by omega), if_neg (by omega), if_neg (by omega), if_neg (by omega), if_neg (by omega)]
theorem ce_due {i : Nat} : ce cy e0 ad n M (8 + 2 * i + 1) = arZ cy 720 (M (8 + 2 * i + 1)) := by
  have h : ¬ (8 + 2 * i + 1) % 2 = 0 := by omega
  simp only [ce, h, if_false]
  rw [if_neg (by omega), if_neg (by omega), if_neg (by omega), if_neg (by omega), if_neg (by omega), if_neg (by omega), if_neg (by omega), if_neg (by omega)]
theorem cl_r {i : Nat} (h : i < n) : (cl cy e0 ad n M)[8 + 2 * i]? = some (ad (8 + 2 * i), .inr (2, ruleF ad M (8 + 2 * i))) := by rw [cl_get (cN_r h), ce_rule]
theorem cl_d {i : Nat} (h : i < n) : (cl cy e0 ad n M)[8 + 2 * i + 1]? = some (ad (8 + 2 * i + 1), arZ cy 720 (M (8 + 2 * i + 1))) := by rw [cl_get (cN_d h), ce_due]
theorem cl_set {k : Nat} {M2 : Nat → Int → Int} {e : va_E} (h : ∀ i, ce cy e0 ad n M2 i = if i = k then e else ce cy e0 ad n M i) : (cl cy e0 ad n M).set k (ad k, e) = cl cy e0 ad n M2 := by
  apply List.ext_getElem?
  intro i
  by_cases hi : i < cN n
  · rw [cl_get hi, h i]
    by_cases hk : i = k
    · subst hk
      rw [List.getElem?_set_self (by simp [cl, hi]), if_pos rfl]
    · rw [List.getElem?_set_ne (Ne.symm hk), if_neg hk, cl_get hi]
  · rw [List.getElem?_eq_none (by simp [cl]; omega), List.getElem?_eq_none (by simp [cl]; omega)]
theorem ar_upd {f : Int → Int} {i v : Int} (h0 : 0 ≤ i) : (upd (fun j : Nat => zI (f j)) i.toNat (zI v)) = fun j : Nat => zI (if (j : Int) = i then v else f j) := by
  funext j
  by_cases h : (j : Int) = i
  · rw [if_pos h, ← h, Int.toNat_natCast]
    simp [upd]
  · rw [if_neg h]
    have h2 : j ≠ i.toNat := by omega
    simp [upd, h2]
theorem upM_row {k : Nat} {j v : Int} : upM M k j v k = fun b => if b = j then v else M k b := by funext b; simp [upM]
theorem upM_off {k a : Nat} {j v : Int} (h : a ≠ k) : upM M k j v a = M a := by funext b; simp [upM, h]
theorem ruleF_off {k a : Nat} {j v : Int} (h : a ≠ k) : ruleF ad (upM M k j v) a = ruleF ad M a := by simp [ruleF, upM_off h]
theorem ce_off {k a : Nat} {j v : Int} (h : a ≠ k) : ce cy e0 ad n (upM M k j v) a = ce cy e0 ad n M a := by
  by_cases h0 : a = 0
  · subst h0; simp [ce, upM_off h]
  by_cases h1 : a = 1
  · subst h1; simp [ce]
  by_cases h2 : a = 2
  · subst h2; simp [ce, upM_off h]
  by_cases h3 : a = 3
  · subst h3; simp [ce, upM_off h]
  by_cases h4 : a = 4
  · subst h4; simp [ce, upM_off h]
  by_cases h5 : a = 5
  · subst h5; simp [ce, upM_off h]
  by_cases h6 : a = 6
  · subst h6; simp [ce, upM_off h]
  by_cases h7 : a = 7
  · subst h7; simp [ce]
  simp [ce, h0, h1, h2, h3, h4, h5, h6, h7, upM_off h, ruleF_off h]
theorem cl_put {k : Nat} {j v : Int} {e : va_E} (h : ce cy e0 ad n (upM M k j v) k = e) : (cl cy e0 ad n M).set k (ad k, e) = cl cy e0 ad n (upM M k j v) := by
  apply cl_set
  intro i
  by_cases hi : i = k
  · rw [if_pos hi, hi, h]
  · rw [if_neg hi, ce_off hi]
theorem put_0 {v : Int} : (cl cy e0 ad n M).set 0 (ad 0, .inr (3, [.ref (ad 1), .ref (ad 5), vi (M 0 2), .ref (ad 6)].set 2 (vi v))) = cl cy e0 ad n (upM M 0 2 v) := cl_put (by simp [ce, upM_s])
theorem put_2 {i v : Int} (h0 : 0 ≤ i) : (cl cy e0 ad n M).set 2 (ad 2, .inl (cy 1, 720, .inl (upd (fun j : Nat => zI (M 2 j)) i.toNat (zI v)))) = cl cy e0 ad n (upM M 2 i v) := cl_put (by simp only [ce, upM_row, ar_upd h0]; rfl)
theorem put_3 {i v : Int} (h0 : 0 ≤ i) : (cl cy e0 ad n M).set 3 (ad 3, .inl (cy 0, 720, .inl (upd (fun j : Nat => zI (M 3 j)) i.toNat (zI v)))) = cl cy e0 ad n (upM M 3 i v) := cl_put (by simp only [ce, upM_row, ar_upd h0]; rfl)
theorem put_4 {i v : Int} (h0 : 0 ≤ i) : (cl cy e0 ad n M).set 4 (ad 4, .inl (cy 0, 720, .inl (upd (fun j : Nat => zI (M 4 j)) i.toNat (zI v)))) = cl cy e0 ad n (upM M 4 i v) := cl_put (by simp only [ce, upM_row, ar_upd h0]; rfl)
theorem put_6 {i v : Int} (h0 : 0 ≤ i) : (cl cy e0 ad n M).set 6 (ad 6, .inl (cy 0, 720, .inl (upd (fun j : Nat => zI (M 6 j)) i.toNat (zI v)))) = cl cy e0 ad n (upM M 6 i v) := cl_put (by simp only [ce, upM_row, ar_upd h0]; rfl)
theorem put_d {q : Nat} {i v : Int} (h0 : 0 ≤ i) : (cl cy e0 ad n M).set (8 + 2 * q + 1) (ad (8 + 2 * q + 1), .inl (cy 1, 720, .inl (upd (fun j : Nat => zI (M (8 + 2 * q + 1) j)) i.toNat (zI v)))) = cl cy e0 ad n (upM M (8 + 2 * q + 1) i v) := cl_put (by rw [ce_due, upM_row, ar_upd h0])
theorem put_r {q j : Nat} {v : Int} (hj : j < 11) : (cl cy e0 ad n M).set (8 + 2 * q) (ad (8 + 2 * q), .inr (2, (ruleF ad M (8 + 2 * q)).set j (vi v))) = cl cy e0 ad n (upM M (8 + 2 * q) j v) := by
  apply cl_put
  rw [ce_rule]
  match j, hj with
  | 0, _ | 1, _ | 2, _ | 3, _ | 4, _ | 5, _ | 6, _ | 7, _ | 8, _ | 9, _ | 10, _ => simp [ruleF, upM]
theorem ld_ar {f : Int → Int} {i : Int} (h0 : 0 ≤ i) {v : Int} (hv : f i = v) : (fun j : Nat => zI (f j)) i.toNat = zI v := by
  show zI (f (i.toNat : Int)) = zI v
  rw [Int.toNat_of_nonneg h0, hv]
end CL
/-- the reference's cells: its object, then its arrays in the order of its fields -/
def ml (cy : Nat → ClassId) (ad : Nat → Nat) (M : Nat → Int → Int) : va_W :=
  [(ad 0, .inr (4, [vi (M 0 0), vi (M 0 1), .ref (ad 2), vi (M 0 3), .ref (ad 4), .ref (ad 5), .ref (ad 6), .ref (ad 7), .ref (ad 8), .ref (ad 9), .ref (ad 10), .ref (ad 11), .ref (ad 12), .ref (ad 13), .ref (ad 14), .ref (ad 15), .ref (ad 16), .ref (ad 17), vi (M 0 18)])),
   (ad 2, arZ cy 720 (M 2)), (ad 4, arI cy 8 (M 4)), (ad 5, arI cy 8 (M 5)), (ad 6, arI cy 8 (M 6)), (ad 7, arI cy 8 (M 7)), (ad 8, arI cy 8 (M 8)), (ad 9, arI cy 8 (M 9)), (ad 10, arI cy 8 (M 10)), (ad 11, arI cy 8 (M 11)),
   (ad 12, arZ cy 64 (M 12)), (ad 13, arZ cy 5760 (M 13)), (ad 14, arI cy 5760 (M 14)), (ad 15, arI cy 8 (M 15)), (ad 16, arI cy 8 (M 16)), (ad 17, arI cy 720 (M 17))]
end
section
theorem kI_L_93 : LkI RL 93 yX2_init cX2_init 1 0 := ⟨ml_L_93, im_X2_init, in_X2, co_X2_init, rfl, by decide +kernel⟩
theorem kI_X2_11 : LkI RX2 11 yX0_init cX0_init 2 0 := ⟨ml_X2_11, im_X0_init, in_X0, co_X0_init, rfl, by decide +kernel⟩
theorem kV_X0_22 : LkV RX0 22 RX0 yX0_numberMonthOf cX0_numberMonthOf 6 none 1 := ⟨ml_X0_22, im_X0_numberMonthOf, se_X0_numberMonthOf, in_X0, co_X0_numberMonthOf, by decide +kernel⟩
theorem kV_X0_30 : LkV RX0 30 RX0 yX0_works cX0_works 2 (some .boolean) 1 := ⟨ml_X0_30, im_X0_works, se_X0_works, in_X0, co_X0_works, by decide +kernel⟩
theorem kI_X2_18 : LkI RX2 18 yJx4a65c_init_da8c8 cJx4a65c_init_da8c8 1 0 := ⟨ml_X2_18, im_Jx4a65c_init_da8c8, in_Jx4a65c, co_Jx4a65c_init_da8c8, rfl, by decide +kernel⟩
theorem kI_Jx4a65c_1 : LkI RJx4a65c 1 yJxc12de_init_da8c8 cJxc12de_init_da8c8 1 0 := ⟨ml_Jx4a65c_1, im_Jxc12de_init_da8c8, in_Jxc12de, co_Jxc12de_init_da8c8, rfl, by decide +kernel⟩
theorem kI_Jxc12de_1 : LkI RJxc12de 1 yJxa1e45_init_da8c8 cJxa1e45_init_da8c8 1 0 := ⟨ml_Jxc12de_1, im_Jxa1e45_init_da8c8, in_Jxa1e45, co_Jxa1e45_init_da8c8, rfl, by decide +kernel⟩
theorem kV_L_117 : LkV RL 117 RX2 yX2_today cX2_today 1 (some .int) 0 := ⟨ml_L_117, im_X2_today, se_X2_today, in_X2, co_X2_today, by decide +kernel⟩
theorem kV_L_131 : LkV RL 131 RX2 yX2_rules cX2_rules 1 (some .int) 0 := ⟨ml_L_131, im_X2_rules, se_X2_rules, in_X2, co_X2_rules, by decide +kernel⟩
theorem kV_X2_39 : LkV RX2 39 RJx4a65c yJx4a65c_size_8abf5 cJx4a65c_size_8abf5 1 (some .int) 0 := ⟨ml_X2_39, im_Jx4a65c_size_8abf5, se_Jx4a65c_size_8abf5, in_Jx4a65c, co_Jx4a65c_size_8abf5, by decide +kernel⟩
theorem kV_L_162 : LkV RL 162 RX2 yX2_overdue cX2_overdue 4 (some .int) 0 := ⟨ml_L_162, im_X2_overdue, se_X2_overdue, in_X2, co_X2_overdue, by decide +kernel⟩
theorem kV_X2_43 : LkV RX2 43 RJx4a65c yJx4a65c_get_915e3 cJx4a65c_get_915e3 2 (some (.object "java/lang/Object")) 1 := ⟨ml_X2_43, im_Jx4a65c_get_915e3, se_Jx4a65c_get_915e3, in_Jx4a65c, co_Jx4a65c_get_915e3, by decide +kernel⟩
theorem kS_Jx4a65c_118 : LkS RJx4a65c 118 yJ15_checkIndex_7cf53 cJ15_checkIndex_7cf53 2 (some .int) 2 := ⟨ml_Jx4a65c_118, st_J15_checkIndex_7cf53, in_J15, co_J15_checkIndex_7cf53, by decide +kernel⟩
theorem kS_J15_105 : LkS RJ15 105 yJ3_checkIndex_8e157 cJ3_checkIndex_8e157 3 (some .int) 3 := ⟨ml_J15_105, st_J3_checkIndex_8e157, in_J3, co_J3_checkIndex_8e157, by decide +kernel⟩
theorem kV_Jx4a65c_123 : LkV RJx4a65c 123 RJx4a65c yJx4a65c_elementData_915e3 cJx4a65c_elementData_915e3 2 (some (.object "java/lang/Object")) 1 := ⟨ml_Jx4a65c_123, im_Jx4a65c_elementData_915e3, se_Jx4a65c_elementData_915e3, in_Jx4a65c, co_Jx4a65c_elementData_915e3, by decide +kernel⟩
theorem kV_X2_117 : LkV RX2 117 RX1 yX1_countDueBefore cX1_countDueBefore 4 (some .int) 1 := ⟨ml_X2_117, im_X1_countDueBefore, se_X1_countDueBefore, in_X1, co_X1_countDueBefore, by decide +kernel⟩
theorem kV_X1_62 : LkV RX1 62 RX1 yX1_isDueOn cX1_isDueOn 2 (some .boolean) 1 := ⟨ml_X1_62, im_X1_isDueOn, se_X1_isDueOn, in_X1, co_X1_isDueOn, by decide +kernel⟩
theorem kS_X2_153 : LkS RX2 153 yJ9_max_7cf53 cJ9_max_7cf53 2 (some .int) 2 := ⟨ml_X2_153, st_J9_max_7cf53, in_J9, co_J9_max_7cf53, by decide +kernel⟩
theorem kV_L_7 : LkV RL 7 RX2 yX2_holiday cX2_holiday 4 (some .boolean) 1 := ⟨ml_L_7, im_X2_holiday, se_X2_holiday, in_X2, co_X2_holiday, by decide +kernel⟩
theorem kS_X2_31 : LkS RX2 31 yX2_checkDay cX2_checkDay 1 none 1 := ⟨ml_X2_31, st_X2_checkDay, in_X2, co_X2_checkDay, by decide +kernel⟩
theorem kS_X2_181 : LkS RX2 181 yX2_isDay cX2_isDay 1 (some .boolean) 1 := ⟨ml_X2_181, st_X2_isDay, in_X2, co_X2_isDay, by decide +kernel⟩
theorem kV_X2_35 : LkV RX2 35 RX0 yX0_toggleHoliday cX0_toggleHoliday 2 (some .boolean) 1 := ⟨ml_X2_35, im_X0_toggleHoliday, se_X0_toggleHoliday, in_X0, co_X0_toggleHoliday, by decide +kernel⟩
theorem kV_X2_49 : LkV RX2 49 RX1 yX1_layDueDays cX1_layDueDays 6 none 1 := ⟨ml_X2_49, im_X1_layDueDays, se_X1_layDueDays, in_X1, co_X1_layDueDays, by decide +kernel⟩
theorem kV_X1_49 : LkV RX1 49 RX0 yX0_works cX0_works 2 (some .boolean) 1 := ⟨ml_X1_49, im_X0_works, se_X0_works, in_X0, co_X0_works, by decide +kernel⟩
theorem kV_X1_55 : LkV RX1 55 RX1 yX1_isNominal cX1_isNominal 3 (some .boolean) 2 := ⟨ml_X1_55, im_X1_isNominal, se_X1_isNominal, in_X1, co_X1_isNominal, by decide +kernel⟩
theorem kV_X1_72 : LkV RX1 72 RX0 yX0_numberFromStart cX0_numberFromStart 2 (some .int) 1 := ⟨ml_X1_72, im_X0_numberFromStart, se_X0_numberFromStart, in_X0, co_X0_numberFromStart, by decide +kernel⟩
theorem kV_X1_75 : LkV RX1 75 RX0 yX0_numberFromEnd cX0_numberFromEnd 2 (some .int) 1 := ⟨ml_X1_75, im_X0_numberFromEnd, se_X0_numberFromEnd, in_X0, co_X0_numberFromEnd, by decide +kernel⟩
theorem kV_L_15 : LkV RL 15 RX2 yX2_isWorking cX2_isWorking 2 (some .boolean) 1 := ⟨ml_L_15, im_X2_isWorking, se_X2_isWorking, in_X2, co_X2_isWorking, by decide +kernel⟩
theorem kV_X2_53 : LkV RX2 53 RX0 yX0_works cX0_works 2 (some .boolean) 1 := ⟨ml_X2_53, im_X0_works, se_X0_works, in_X0, co_X0_works, by decide +kernel⟩
theorem kV_L_18 : LkV RL 18 RX2 yX2_workingDays cX2_workingDays 5 (some .int) 2 := ⟨ml_L_18, im_X2_workingDays, se_X2_workingDays, in_X2, co_X2_workingDays, by decide +kernel⟩
theorem kS_X2_56 : LkS RX2 56 yX2_checkSpan cX2_checkSpan 2 none 2 := ⟨ml_X2_56, st_X2_checkSpan, in_X2, co_X2_checkSpan, by decide +kernel⟩
theorem kV_L_24 : LkV RL 24 RX2 yX2_pass cX2_pass 2 (some .int) 1 := ⟨ml_L_24, im_X2_pass, se_X2_pass, in_X2, co_X2_pass, by decide +kernel⟩
theorem kS_X2_60 : LkS RX2 60 yX2_checkRange cX2_checkRange 3 none 3 := ⟨ml_X2_60, st_X2_checkRange, in_X2, co_X2_checkRange, by decide +kernel⟩
theorem kV_L_30 : LkV RL 30 RX2 yX2_addRule cX2_addRule 8 (some .int) 6 := ⟨ml_L_30, im_X2_addRule, se_X2_addRule, in_X2, co_X2_addRule, by decide +kernel⟩
theorem kS_X2_71 : LkS RX2 71 yX2_checkKind cX2_checkKind 2 none 2 := ⟨ml_X2_71, st_X2_checkKind, in_X2, co_X2_checkKind, by decide +kernel⟩
theorem kS_X2_74 : LkS RX2 74 yX2_checkShift cX2_checkShift 1 none 1 := ⟨ml_X2_74, st_X2_checkShift, in_X2, co_X2_checkShift, by decide +kernel⟩
theorem kI_X2_79 : LkI RX2 79 yX1_init cX1_init 7 6 := ⟨ml_X2_79, im_X1_init, in_X1, co_X1_init, rfl, by decide +kernel⟩
theorem kV_X2_82 : LkV RX2 82 RJx4a65c yJx4a65c_add_9ea2d cJx4a65c_add_9ea2d 2 (some .boolean) 1 := ⟨ml_X2_82, im_Jx4a65c_add_9ea2d, se_Jx4a65c_add_9ea2d, in_Jx4a65c, co_Jx4a65c_add_9ea2d, by decide +kernel⟩
theorem kV_Jx4a65c_131 : LkV RJx4a65c 131 RJx4a65c yJx4a65c_add_72be8 cJx4a65c_add_72be8 4 none 3 := ⟨ml_Jx4a65c_131, im_Jx4a65c_add_72be8, se_Jx4a65c_add_72be8, in_Jx4a65c, co_Jx4a65c_add_72be8, by decide +kernel⟩
theorem kV_Jx4a65c_129 : LkV RJx4a65c 129 RJx4a65c yJx4a65c_grow_d5877 cJx4a65c_grow_d5877 1 (some (.array (.object "java/lang/Object"))) 0 := ⟨ml_Jx4a65c_129, im_Jx4a65c_grow_d5877, se_Jx4a65c_grow_d5877, in_Jx4a65c, co_Jx4a65c_grow_d5877, by decide +kernel⟩
theorem kV_Jx4a65c_69 : LkV RJx4a65c 69 RJx4a65c yJx4a65c_grow_92f84 cJx4a65c_grow_92f84 4 (some (.array (.object "java/lang/Object"))) 1 := ⟨ml_Jx4a65c_69, im_Jx4a65c_grow_92f84, se_Jx4a65c_grow_92f84, in_Jx4a65c, co_Jx4a65c_grow_92f84, by decide +kernel⟩
theorem kS_Jx4a65c_73 : LkS RJx4a65c 73 yJ8_newLength_cabcc cJ8_newLength_cabcc 4 (some .int) 3 := ⟨ml_Jx4a65c_73, st_J8_newLength_cabcc, in_J8, co_J8_newLength_cabcc, by decide +kernel⟩
theorem kS_J8_194 : LkS RJ8 194 yJ9_max_7cf53 cJ9_max_7cf53 2 (some .int) 2 := ⟨ml_J8_194, st_J9_max_7cf53, in_J9, co_J9_max_7cf53, by decide +kernel⟩
theorem kS_J8_201 : LkS RJ8 201 yJ8_hugeLength_7cf53 cJ8_hugeLength_7cf53 3 (some .int) 2 := ⟨ml_J8_201, st_J8_hugeLength_7cf53, in_J8, co_J8_hugeLength_7cf53, by decide +kernel⟩
theorem kS_Jx4a65c_66 : LkS RJx4a65c 66 yJ7_copyOf_1904c cJ7_copyOf_1904c 2 (some (.array (.object "java/lang/Object"))) 2 := ⟨ml_Jx4a65c_66, st_J7_copyOf_1904c, in_J7, co_J7_copyOf_1904c, by decide +kernel⟩
theorem kS_J7_300 : LkS RJ7 300 yJ7_copyOf_6403c cJ7_copyOf_6403c 4 (some (.array (.object "java/lang/Object"))) 3 := ⟨ml_J7_300, st_J7_copyOf_6403c, in_J7, co_J7_copyOf_6403c, by decide +kernel⟩
theorem kS_J7_304 : LkS RJ7 304 yJ9_min_7cf53 cJ9_min_7cf53 2 (some .int) 2 := ⟨ml_J7_304, st_J9_min_7cf53, in_J9, co_J9_min_7cf53, by decide +kernel⟩
theorem kS_Jx4a65c_79 : LkS RJx4a65c 79 yJ9_max_7cf53 cJ9_max_7cf53 2 (some .int) 2 := ⟨ml_Jx4a65c_79, st_J9_max_7cf53, in_J9, co_J9_max_7cf53, by decide +kernel⟩
theorem kV_L_34 : LkV RL 34 RX2 yX2_setShift cX2_setShift 5 (some .int) 2 := ⟨ml_L_34, im_X2_setShift, se_X2_setShift, in_X2, co_X2_setShift, by decide +kernel⟩
theorem kV_X2_86 : LkV RX2 86 RX2 yX2_ruleAt cX2_ruleAt 2 (some (.object "Obligary$Rule")) 1 := ⟨ml_X2_86, im_X2_ruleAt, se_X2_ruleAt, in_X2, co_X2_ruleAt, by decide +kernel⟩
theorem kV_L_37 : LkV RL 37 RX2 yX2_require cX2_require 5 (some .boolean) 2 := ⟨ml_L_37, im_X2_require, se_X2_require, in_X2, co_X2_require, by decide +kernel⟩
theorem kV_X2_93 : LkV RX2 93 RX1 yX1_needs cX1_needs 2 (some .boolean) 1 := ⟨ml_X2_93, im_X1_needs, se_X1_needs, in_X1, co_X1_needs, by decide +kernel⟩
theorem kV_X2_98 : LkV RX2 98 RX1 yX1_requires cX1_requires 2 (some .boolean) 1 := ⟨ml_X2_98, im_X1_requires, se_X1_requires, in_X1, co_X1_requires, by decide +kernel⟩
theorem kV_X2_107 : LkV RX2 107 RX2 yX2_spreadNeeds cX2_spreadNeeds 5 none 2 := ⟨ml_X2_107, im_X2_spreadNeeds, se_X2_spreadNeeds, in_X2, co_X2_spreadNeeds, by decide +kernel⟩
theorem kV_L_41 : LkV RL 41 RX2 yX2_dueDay cX2_dueDay 4 (some .int) 2 := ⟨ml_L_41, im_X2_dueDay, se_X2_dueDay, in_X2, co_X2_dueDay, by decide +kernel⟩
theorem kS_X2_110 : LkS RX2 110 yX2_checkPlace cX2_checkPlace 1 none 1 := ⟨ml_X2_110, st_X2_checkPlace, in_X2, co_X2_checkPlace, by decide +kernel⟩
theorem kV_X2_113 : LkV RX2 113 RX1 yX1_dayOfDuty cX1_dayOfDuty 4 (some .int) 1 := ⟨ml_X2_113, im_X1_dayOfDuty, se_X1_dayOfDuty, in_X1, co_X1_dayOfDuty, by decide +kernel⟩
theorem kV_L_44 : LkV RL 44 RX2 yX2_duties cX2_duties 2 (some .int) 1 := ⟨ml_L_44, im_X2_duties, se_X2_duties, in_X2, co_X2_duties, by decide +kernel⟩
theorem kV_L_47 : LkV RL 47 RX2 yX2_nextDue cX2_nextDue 4 (some .int) 2 := ⟨ml_L_47, im_X2_nextDue, se_X2_nextDue, in_X2, co_X2_nextDue, by decide +kernel⟩
theorem kV_X2_120 : LkV RX2 120 RX1 yX1_firstDueFrom cX1_firstDueFrom 3 (some .int) 1 := ⟨ml_X2_120, im_X1_firstDueFrom, se_X1_firstDueFrom, in_X1, co_X1_firstDueFrom, by decide +kernel⟩
theorem kV_L_50 : LkV RL 50 RX2 yX2_nextDueByWalking cX2_nextDueByWalking 4 (some .int) 2 := ⟨ml_L_50, im_X2_nextDueByWalking, se_X2_nextDueByWalking, in_X2, co_X2_nextDueByWalking, by decide +kernel⟩
theorem kV_X2_123 : LkV RX2 123 RX1 yX1_walkToDue cX1_walkToDue 4 (some .int) 2 := ⟨ml_X2_123, im_X1_walkToDue, se_X1_walkToDue, in_X1, co_X1_walkToDue, by decide +kernel⟩
theorem kV_X1_69 : LkV RX1 69 RX1 yX1_isMovedTo cX1_isMovedTo 5 (some .boolean) 2 := ⟨ml_X1_69, im_X1_isMovedTo, se_X1_isMovedTo, in_X1, co_X1_isMovedTo, by decide +kernel⟩
theorem kV_L_53 : LkV RL 53 RX2 yX2_upcoming cX2_upcoming 6 (some .int) 2 := ⟨ml_L_53, im_X2_upcoming, se_X2_upcoming, in_X2, co_X2_upcoming, by decide +kernel⟩
theorem kV_X2_127 : LkV RX2 127 RX1 yX1_isDueOn cX1_isDueOn 2 (some .boolean) 1 := ⟨ml_X2_127, im_X1_isDueOn, se_X1_isDueOn, in_X1, co_X1_isDueOn, by decide +kernel⟩
theorem kV_L_56 : LkV RL 56 RX2 yX2_finish cX2_finish 4 (some .int) 1 := ⟨ml_L_56, im_X2_finish, se_X2_finish, in_X2, co_X2_finish, by decide +kernel⟩
theorem kV_X2_130 : LkV RX2 130 RX1 yX1_openDay cX1_openDay 1 (some .int) 0 := ⟨ml_X2_130, im_X1_openDay, se_X1_openDay, in_X1, co_X1_openDay, by decide +kernel⟩
theorem kV_X1_65 : LkV RX1 65 RX1 yX1_dayOfDuty cX1_dayOfDuty 4 (some .int) 1 := ⟨ml_X1_65, im_X1_dayOfDuty, se_X1_dayOfDuty, in_X1, co_X1_dayOfDuty, by decide +kernel⟩
theorem kV_X2_138 : LkV RX2 138 RX2 yX2_foreseeOpenDuties cX2_foreseeOpenDuties 3 none 0 := ⟨ml_X2_138, im_X2_foreseeOpenDuties, se_X2_foreseeOpenDuties, in_X2, co_X2_foreseeOpenDuties, by decide +kernel⟩
theorem kV_X2_141 : LkV RX2 141 RX2 yX2_leastBlocker cX2_leastBlocker 5 (some .int) 1 := ⟨ml_X2_141, im_X2_leastBlocker, se_X2_leastBlocker, in_X2, co_X2_leastBlocker, by decide +kernel⟩
theorem kV_L_61 : LkV RL 61 RX2 yX2_open cX2_open 2 (some .int) 1 := ⟨ml_L_61, im_X2_open, se_X2_open, in_X2, co_X2_open, by decide +kernel⟩
theorem kV_L_64 : LkV RL 64 RX2 yX2_finished cX2_finished 2 (some .int) 1 := ⟨ml_L_64, im_X2_finished, se_X2_finished, in_X2, co_X2_finished, by decide +kernel⟩
theorem kV_L_67 : LkV RL 67 RX2 yX2_blockedBy cX2_blockedBy 3 (some .int) 1 := ⟨ml_L_67, im_X2_blockedBy, se_X2_blockedBy, in_X2, co_X2_blockedBy, by decide +kernel⟩
theorem kV_L_70 : LkV RL 70 RX2 yX2_order cX2_order 6 (some .int) 2 := ⟨ml_L_70, im_X2_order, se_X2_order, in_X2, co_X2_order, by decide +kernel⟩
theorem kV_X2_159 : LkV RX2 159 RX2 yX2_nextInOrder cX2_nextInOrder 7 (some .int) 1 := ⟨ml_X2_159, im_X2_nextInOrder, se_X2_nextInOrder, in_X2, co_X2_nextInOrder, by decide +kernel⟩
theorem kV_L_73 : LkV RL 73 RX2 yX2_isCovered cX2_isCovered 4 (some .boolean) 2 := ⟨ml_L_73, im_X2_isCovered, se_X2_isCovered, in_X2, co_X2_isCovered, by decide +kernel⟩
theorem kV_X2_165 : LkV RX2 165 RX1 yX1_hasEvidence cX1_hasEvidence 1 (some .boolean) 0 := ⟨ml_X2_165, im_X1_hasEvidence, se_X1_hasEvidence, in_X1, co_X1_hasEvidence, by decide +kernel⟩
theorem kV_X2_169 : LkV RX2 169 RX1 yX1_evidenceUntil cX1_evidenceUntil 1 (some .int) 0 := ⟨ml_X2_169, im_X1_evidenceUntil, se_X1_evidenceUntil, in_X1, co_X1_evidenceUntil, by decide +kernel⟩
theorem kV_L_76 : LkV RL 76 RX2 yX2_lasts cX2_lasts 3 (some .int) 1 := ⟨ml_L_76, im_X2_lasts, se_X2_lasts, in_X2, co_X2_lasts, by decide +kernel⟩
theorem kV_L_79 : LkV RL 79 RX2 yX2_load cX2_load 2 (some .int) 1 := ⟨ml_L_79, im_X2_load, se_X2_load, in_X2, co_X2_load, by decide +kernel⟩
theorem kV_X2_174 : LkV RX2 174 RX2 yX2_effortsDueOn cX2_effortsDueOn 5 (some .int) 1 := ⟨ml_X2_174, im_X2_effortsDueOn, se_X2_effortsDueOn, in_X2, co_X2_effortsDueOn, by decide +kernel⟩
theorem kV_L_82 : LkV RL 82 RX2 yX2_heaviest cX2_heaviest 7 (some .int) 2 := ⟨ml_L_82, im_X2_heaviest, se_X2_heaviest, in_X2, co_X2_heaviest, by decide +kernel⟩
theorem kV_L_85 : LkV RL 85 RX2 yX2_level cX2_level 4 (some .int) 3 := ⟨ml_L_85, im_X2_level, se_X2_level, in_X2, co_X2_level, by decide +kernel⟩
theorem kV_X2_177 : LkV RX2 177 RX2 yX2_layEfforts cX2_layEfforts 8 (some .int) 3 := ⟨ml_X2_177, im_X2_layEfforts, se_X2_layEfforts, in_X2, co_X2_layEfforts, by decide +kernel⟩
theorem kS_X2_203 : LkS RX2 203 yJ7_fill_53178 cJ7_fill_53178 4 none 2 := ⟨ml_X2_203, st_J7_fill_53178, in_J7, co_J7_fill_53178, by decide +kernel⟩
theorem kV_X2_209 : LkV RX2 209 RX2 yX2_layEffort cX2_layEffort 6 (some .boolean) 4 := ⟨ml_X2_209, im_X2_layEffort, se_X2_layEffort, in_X2, co_X2_layEffort, by decide +kernel⟩
theorem kV_L_89 : LkV RL 89 RX2 yX2_levelled cX2_levelled 5 (some .int) 4 := ⟨ml_L_89, im_X2_levelled, se_X2_levelled, in_X2, co_X2_levelled, by decide +kernel⟩
theorem kI_L_96 : LkI RL 96 yX3_init cX3_init 2 0 := ⟨ml_L_96, im_X3_init, in_X3, co_X3_init, rfl, by decide +kernel⟩
theorem kV_L_103 : LkV RL 103 RX3 yX3_thrown cX3_thrown 1 (some .int) 0 := ⟨ml_L_103, im_X3_thrown, se_X3_thrown, in_X3, co_X3_thrown, by decide +kernel⟩
theorem kV_L_102 : LkV RL 102 RX3 yX3_holiday cX3_holiday 2 (some .boolean) 1 := ⟨ml_L_102, im_X3_holiday, se_X3_holiday, in_X3, co_X3_holiday, by decide +kernel⟩
theorem kS_X3_67 : LkS RX3 67 yX3_isDay cX3_isDay 1 (some .boolean) 1 := ⟨ml_X3_67, st_X3_isDay, in_X3, co_X3_isDay, by decide +kernel⟩
theorem kS_X3_60 : LkS RX3 60 yX3_in cX3_in 3 (some .boolean) 3 := ⟨ml_X3_60, st_X3_in, in_X3, co_X3_in, by decide +kernel⟩
theorem kV_L_109 : LkV RL 109 RX3 yX3_isWorking cX3_isWorking 2 (some .boolean) 1 := ⟨ml_L_109, im_X3_isWorking, se_X3_isWorking, in_X3, co_X3_isWorking, by decide +kernel⟩
theorem kV_X3_71 : LkV RX3 71 RX3 yX3_works cX3_works 2 (some .boolean) 1 := ⟨ml_X3_71, im_X3_works, se_X3_works, in_X3, co_X3_works, by decide +kernel⟩
theorem kV_L_113 : LkV RL 113 RX3 yX3_workingDays cX3_workingDays 3 (some .int) 2 := ⟨ml_L_113, im_X3_workingDays, se_X3_workingDays, in_X3, co_X3_workingDays, by decide +kernel⟩
theorem kS_X3_74 : LkS RX3 74 yX3_barsSpan cX3_barsSpan 2 (some .int) 2 := ⟨ml_X3_74, st_X3_barsSpan, in_X3, co_X3_barsSpan, by decide +kernel⟩
theorem kV_X3_78 : LkV RX3 78 RX3 yX3_workingFrom cX3_workingFrom 5 (some .int) 2 := ⟨ml_X3_78, im_X3_workingFrom, se_X3_workingFrom, in_X3, co_X3_workingFrom, by decide +kernel⟩
theorem kV_L_116 : LkV RL 116 RX3 yX3_pass cX3_pass 2 (some .int) 1 := ⟨ml_L_116, im_X3_pass, se_X3_pass, in_X3, co_X3_pass, by decide +kernel⟩
theorem kV_L_120 : LkV RL 120 RX3 yX3_today cX3_today 1 (some .int) 0 := ⟨ml_L_120, im_X3_today, se_X3_today, in_X3, co_X3_today, by decide +kernel⟩
theorem kV_L_124 : LkV RL 124 RX3 yX3_addRule cX3_addRule 10 (some .int) 6 := ⟨ml_L_124, im_X3_addRule, se_X3_addRule, in_X3, co_X3_addRule, by decide +kernel⟩
theorem kV_L_127 : LkV RL 127 RX3 yX3_setShift cX3_setShift 4 (some .int) 2 := ⟨ml_L_127, im_X3_setShift, se_X3_setShift, in_X3, co_X3_setShift, by decide +kernel⟩
theorem kV_X3_84 : LkV RX3 84 RX3 yX3_isRule cX3_isRule 2 (some .boolean) 1 := ⟨ml_X3_84, im_X3_isRule, se_X3_isRule, in_X3, co_X3_isRule, by decide +kernel⟩
theorem kV_L_130 : LkV RL 130 RX3 yX3_require cX3_require 4 (some .boolean) 2 := ⟨ml_L_130, im_X3_require, se_X3_require, in_X3, co_X3_require, by decide +kernel⟩
theorem kV_X3_87 : LkV RX3 87 RX3 yX3_reaches cX3_reaches 7 (some .boolean) 2 := ⟨ml_X3_87, im_X3_reaches, se_X3_reaches, in_X3, co_X3_reaches, by decide +kernel⟩
theorem kV_L_134 : LkV RL 134 RX3 yX3_rules cX3_rules 1 (some .int) 0 := ⟨ml_L_134, im_X3_rules, se_X3_rules, in_X3, co_X3_rules, by decide +kernel⟩
theorem kV_L_137 : LkV RL 137 RX3 yX3_dueDay cX3_dueDay 3 (some .int) 2 := ⟨ml_L_137, im_X3_dueDay, se_X3_dueDay, in_X3, co_X3_dueDay, by decide +kernel⟩
theorem kV_X3_97 : LkV RX3 97 RX3 yX3_marks cX3_marks 4 none 0 := ⟨ml_X3_97, im_X3_marks, se_X3_marks, in_X3, co_X3_marks, by decide +kernel⟩
theorem kV_X3_91 : LkV RX3 91 RX3 yX3_isNominal cX3_isNominal 5 (some .boolean) 2 := ⟨ml_X3_91, im_X3_isNominal, se_X3_isNominal, in_X3, co_X3_isNominal, by decide +kernel⟩
theorem kV_X3_94 : LkV RX3 94 RX3 yX3_moved cX3_moved 5 (some .int) 2 := ⟨ml_X3_94, im_X3_moved, se_X3_moved, in_X3, co_X3_moved, by decide +kernel⟩
theorem kV_X3_100 : LkV RX3 100 RX3 yX3_dueAt cX3_dueAt 3 (some .int) 2 := ⟨ml_X3_100, im_X3_dueAt, se_X3_dueAt, in_X3, co_X3_dueAt, by decide +kernel⟩
theorem kV_L_140 : LkV RL 140 RX3 yX3_duties cX3_duties 2 (some .int) 1 := ⟨ml_L_140, im_X3_duties, se_X3_duties, in_X3, co_X3_duties, by decide +kernel⟩
theorem kV_X3_103 : LkV RX3 103 RX3 yX3_countBefore cX3_countBefore 4 (some .int) 2 := ⟨ml_X3_103, im_X3_countBefore, se_X3_countBefore, in_X3, co_X3_countBefore, by decide +kernel⟩
theorem kV_L_143 : LkV RL 143 RX3 yX3_nextDue cX3_nextDue 3 (some .int) 2 := ⟨ml_L_143, im_X3_nextDue, se_X3_nextDue, in_X3, co_X3_nextDue, by decide +kernel⟩
theorem kV_X3_106 : LkV RX3 106 RX3 yX3_firstFrom cX3_firstFrom 3 (some .int) 2 := ⟨ml_X3_106, im_X3_firstFrom, se_X3_firstFrom, in_X3, co_X3_firstFrom, by decide +kernel⟩
theorem kV_L_146 : LkV RL 146 RX3 yX3_nextDueByWalking cX3_nextDueByWalking 3 (some .int) 2 := ⟨ml_L_146, im_X3_nextDueByWalking, se_X3_nextDueByWalking, in_X3, co_X3_nextDueByWalking, by decide +kernel⟩
theorem kV_L_149 : LkV RL 149 RX3 yX3_upcoming cX3_upcoming 6 (some .int) 2 := ⟨ml_L_149, im_X3_upcoming, se_X3_upcoming, in_X3, co_X3_upcoming, by decide +kernel⟩
theorem kV_L_152 : LkV RL 152 RX3 yX3_finish cX3_finish 3 (some .int) 1 := ⟨ml_L_152, im_X3_finish, se_X3_finish, in_X3, co_X3_finish, by decide +kernel⟩
theorem kV_X3_109 : LkV RX3 109 RX3 yX3_blocks cX3_blocks 7 (some .int) 2 := ⟨ml_X3_109, im_X3_blocks, se_X3_blocks, in_X3, co_X3_blocks, by decide +kernel⟩
theorem kV_L_155 : LkV RL 155 RX3 yX3_open cX3_open 2 (some .int) 1 := ⟨ml_L_155, im_X3_open, se_X3_open, in_X3, co_X3_open, by decide +kernel⟩
theorem kV_L_158 : LkV RL 158 RX3 yX3_finished cX3_finished 2 (some .int) 1 := ⟨ml_L_158, im_X3_finished, se_X3_finished, in_X3, co_X3_finished, by decide +kernel⟩
theorem kV_X3_113 : LkV RX3 113 RX3 yX3_fails cX3_fails 2 (some .int) 1 := ⟨ml_X3_113, im_X3_fails, se_X3_fails, in_X3, co_X3_fails, by decide +kernel⟩
theorem kV_L_161 : LkV RL 161 RX3 yX3_blockedBy cX3_blockedBy 2 (some .int) 1 := ⟨ml_L_161, im_X3_blockedBy, se_X3_blockedBy, in_X3, co_X3_blockedBy, by decide +kernel⟩
theorem kV_L_165 : LkV RL 165 RX3 yX3_overdue cX3_overdue 4 (some .int) 0 := ⟨ml_L_165, im_X3_overdue, se_X3_overdue, in_X3, co_X3_overdue, by decide +kernel⟩
theorem kV_L_168 : LkV RL 168 RX3 yX3_order cX3_order 5 (some .int) 2 := ⟨ml_L_168, im_X3_order, se_X3_order, in_X3, co_X3_order, by decide +kernel⟩
theorem kV_X3_117 : LkV RX3 117 RX3 yX3_comesNext cX3_comesNext 7 (some .int) 1 := ⟨ml_X3_117, im_X3_comesNext, se_X3_comesNext, in_X3, co_X3_comesNext, by decide +kernel⟩
theorem kV_L_171 : LkV RL 171 RX3 yX3_isCovered cX3_isCovered 3 (some .boolean) 2 := ⟨ml_L_171, im_X3_isCovered, se_X3_isCovered, in_X3, co_X3_isCovered, by decide +kernel⟩
theorem kV_L_174 : LkV RL 174 RX3 yX3_lasts cX3_lasts 2 (some .int) 1 := ⟨ml_L_174, im_X3_lasts, se_X3_lasts, in_X3, co_X3_lasts, by decide +kernel⟩
theorem kV_L_177 : LkV RL 177 RX3 yX3_load cX3_load 2 (some .int) 1 := ⟨ml_L_177, im_X3_load, se_X3_load, in_X3, co_X3_load, by decide +kernel⟩
theorem kV_X3_120 : LkV RX3 120 RX3 yX3_loadOf cX3_loadOf 4 (some .int) 1 := ⟨ml_X3_120, im_X3_loadOf, se_X3_loadOf, in_X3, co_X3_loadOf, by decide +kernel⟩
theorem kV_L_180 : LkV RL 180 RX3 yX3_heaviest cX3_heaviest 5 (some .int) 2 := ⟨ml_L_180, im_X3_heaviest, se_X3_heaviest, in_X3, co_X3_heaviest, by decide +kernel⟩
theorem kV_L_184 : LkV RL 184 RX3 yX3_level cX3_level 4 (some .int) 3 := ⟨ml_L_184, im_X3_level, se_X3_level, in_X3, co_X3_level, by decide +kernel⟩
theorem kV_X3_130 : LkV RX3 130 RX3 yX3_barsLevel cX3_barsLevel 5 (some .int) 4 := ⟨ml_X3_130, im_X3_barsLevel, se_X3_barsLevel, in_X3, co_X3_barsLevel, by decide +kernel⟩
theorem kV_X3_134 : LkV RX3 134 RX3 yX3_levels cX3_levels 6 none 3 := ⟨ml_X3_134, im_X3_levels, se_X3_levels, in_X3, co_X3_levels, by decide +kernel⟩
theorem kV_X3_126 : LkV RX3 126 RX3 yX3_lays cX3_lays 6 none 4 := ⟨ml_X3_126, im_X3_lays, se_X3_lays, in_X3, co_X3_lays, by decide +kernel⟩
theorem kV_L_188 : LkV RL 188 RX3 yX3_levelled cX3_levelled 5 (some .int) 4 := ⟨ml_L_188, im_X3_levelled, se_X3_levelled, in_X3, co_X3_levelled, by decide +kernel⟩
section ML
variable {cy : Nat → ClassId} {ad : Nat → Nat} {M : Nat → Int → Int}
theorem mput_0_0 {v : Int} : (ml cy ad M).set 0 (ad 0, .inr (4, ([vi (M 0 0), vi (M 0 1), .ref (ad 2), vi (M 0 3), .ref (ad 4), .ref (ad 5), .ref (ad 6), .ref (ad 7), .ref (ad 8), .ref (ad 9), .ref (ad 10), .ref (ad 11), .ref (ad 12), .ref (ad 13), .ref (ad 14), .ref (ad 15), .ref (ad 16), .ref (ad 17), vi (M 0 18)] : List Value).set 0 (vi v))) = ml cy ad (upM M 0 0 v) := by simp [ml, upM]
theorem mput_0_1 {v : Int} : (ml cy ad M).set 0 (ad 0, .inr (4, ([vi (M 0 0), vi (M 0 1), .ref (ad 2), vi (M 0 3), .ref (ad 4), .ref (ad 5), .ref (ad 6), .ref (ad 7), .ref (ad 8), .ref (ad 9), .ref (ad 10), .ref (ad 11), .ref (ad 12), .ref (ad 13), .ref (ad 14), .ref (ad 15), .ref (ad 16), .ref (ad 17), vi (M 0 18)] : List Value).set 1 (vi v))) = ml cy ad (upM M 0 1 v) := by simp [ml, upM]
theorem mput_0_3 {v : Int} : (ml cy ad M).set 0 (ad 0, .inr (4, ([vi (M 0 0), vi (M 0 1), .ref (ad 2), vi (M 0 3), .ref (ad 4), .ref (ad 5), .ref (ad 6), .ref (ad 7), .ref (ad 8), .ref (ad 9), .ref (ad 10), .ref (ad 11), .ref (ad 12), .ref (ad 13), .ref (ad 14), .ref (ad 15), .ref (ad 16), .ref (ad 17), vi (M 0 18)] : List Value).set 3 (vi v))) = ml cy ad (upM M 0 3 v) := by simp [ml, upM]
theorem mput_0_18 {v : Int} : (ml cy ad M).set 0 (ad 0, .inr (4, ([vi (M 0 0), vi (M 0 1), .ref (ad 2), vi (M 0 3), .ref (ad 4), .ref (ad 5), .ref (ad 6), .ref (ad 7), .ref (ad 8), .ref (ad 9), .ref (ad 10), .ref (ad 11), .ref (ad 12), .ref (ad 13), .ref (ad 14), .ref (ad 15), .ref (ad 16), .ref (ad 17), vi (M 0 18)] : List Value).set 18 (vi v))) = ml cy ad (upM M 0 18 v) := by simp [ml, upM]
theorem mput_2 {i v : Int} (h0 : 0 ≤ i) : (ml cy ad M).set 1 (ad 2, .inl (cy 1, 720, .inl (upd (fun j : Nat => zI (M 2 j)) i.toNat (zI v)))) = ml cy ad (upM M 2 i v) := by rw [ar_upd h0]; simp [ml, upM]
theorem mput_4 {i v : Int} (h0 : 0 ≤ i) : (ml cy ad M).set 2 (ad 4, .inl (cy 0, 8, .inl (upd (fun j : Nat => zI (M 4 j)) i.toNat (zI v)))) = ml cy ad (upM M 4 i v) := by rw [ar_upd h0]; simp [ml, upM]
theorem mput_5 {i v : Int} (h0 : 0 ≤ i) : (ml cy ad M).set 3 (ad 5, .inl (cy 0, 8, .inl (upd (fun j : Nat => zI (M 5 j)) i.toNat (zI v)))) = ml cy ad (upM M 5 i v) := by rw [ar_upd h0]; simp [ml, upM]
theorem mput_6 {i v : Int} (h0 : 0 ≤ i) : (ml cy ad M).set 4 (ad 6, .inl (cy 0, 8, .inl (upd (fun j : Nat => zI (M 6 j)) i.toNat (zI v)))) = ml cy ad (upM M 6 i v) := by rw [ar_upd h0]; simp [ml, upM]
theorem mput_7 {i v : Int} (h0 : 0 ≤ i) : (ml cy ad M).set 5 (ad 7, .inl (cy 0, 8, .inl (upd (fun j : Nat => zI (M 7 j)) i.toNat (zI v)))) = ml cy ad (upM M 7 i v) := by rw [ar_upd h0]; simp [ml, upM]
theorem mput_8 {i v : Int} (h0 : 0 ≤ i) : (ml cy ad M).set 6 (ad 8, .inl (cy 0, 8, .inl (upd (fun j : Nat => zI (M 8 j)) i.toNat (zI v)))) = ml cy ad (upM M 8 i v) := by rw [ar_upd h0]; simp [ml, upM]
theorem mput_9 {i v : Int} (h0 : 0 ≤ i) : (ml cy ad M).set 7 (ad 9, .inl (cy 0, 8, .inl (upd (fun j : Nat => zI (M 9 j)) i.toNat (zI v)))) = ml cy ad (upM M 9 i v) := by rw [ar_upd h0]; simp [ml, upM]
theorem mput_10 {i v : Int} (h0 : 0 ≤ i) : (ml cy ad M).set 8 (ad 10, .inl (cy 0, 8, .inl (upd (fun j : Nat => zI (M 10 j)) i.toNat (zI v)))) = ml cy ad (upM M 10 i v) := by rw [ar_upd h0]; simp [ml, upM]
theorem mput_11 {i v : Int} (h0 : 0 ≤ i) : (ml cy ad M).set 9 (ad 11, .inl (cy 0, 8, .inl (upd (fun j : Nat => zI (M 11 j)) i.toNat (zI v)))) = ml cy ad (upM M 11 i v) := by rw [ar_upd h0]; simp [ml, upM]
theorem mput_12 {i v : Int} (h0 : 0 ≤ i) : (ml cy ad M).set 10 (ad 12, .inl (cy 1, 64, .inl (upd (fun j : Nat => zI (M 12 j)) i.toNat (zI v)))) = ml cy ad (upM M 12 i v) := by rw [ar_upd h0]; simp [ml, upM]
theorem mput_13 {i v : Int} (h0 : 0 ≤ i) : (ml cy ad M).set 11 (ad 13, .inl (cy 1, 5760, .inl (upd (fun j : Nat => zI (M 13 j)) i.toNat (zI v)))) = ml cy ad (upM M 13 i v) := by rw [ar_upd h0]; simp [ml, upM]
theorem mput_14 {i v : Int} (h0 : 0 ≤ i) : (ml cy ad M).set 12 (ad 14, .inl (cy 0, 5760, .inl (upd (fun j : Nat => zI (M 14 j)) i.toNat (zI v)))) = ml cy ad (upM M 14 i v) := by rw [ar_upd h0]; simp [ml, upM]
theorem mput_15 {i v : Int} (h0 : 0 ≤ i) : (ml cy ad M).set 13 (ad 15, .inl (cy 0, 8, .inl (upd (fun j : Nat => zI (M 15 j)) i.toNat (zI v)))) = ml cy ad (upM M 15 i v) := by rw [ar_upd h0]; simp [ml, upM]
theorem mput_16 {i v : Int} (h0 : 0 ≤ i) : (ml cy ad M).set 14 (ad 16, .inl (cy 0, 8, .inl (upd (fun j : Nat => zI (M 16 j)) i.toNat (zI v)))) = ml cy ad (upM M 16 i v) := by rw [ar_upd h0]; simp [ml, upM]
theorem mput_17 {i v : Int} (h0 : 0 ≤ i) : (ml cy ad M).set 15 (ad 17, .inl (cy 0, 720, .inl (upd (fun j : Nat => zI (M 17 j)) i.toNat (zI v)))) = ml cy ad (upM M 17 i v) := by rw [ar_upd h0]; simp [ml, upM]
end ML
end
section
/-! SPEC: days, counts -/
theorem rb {a b : Bool} (h : a = b) : some (vi (bI a)) = some (vi (bI b)) := by rw [h]
theorem ri {a b : Int} (h : a = b) : some (vi a) = some (vi b) := by rw [h]
def isDy (d : Int) : Bool := decide (0 ≤ d) && decide (d < 720)
theorem isDy_t {d : Int} (h0 : 0 ≤ d) (h1 : d < 720) : isDy d = true := by simp [isDy, h0, h1]
theorem isDy_iff {d : Int} : isDy d = true ↔ 0 ≤ d ∧ d < 720 := by simp [isDy]
theorem isDy_f {d : Int} (h : d < 0 ∨ 720 ≤ d) : isDy d = false := by
  simp only [isDy, Bool.and_eq_false_iff, decide_eq_false_iff_not]
  omega
def wk (h : Int → Bool) (d : Int) : Bool := decide (d % 7 < 5) && !h d
def cnt (p : Int → Bool) (a : Int) : Nat → Int
  | 0 => 0
  | n + 1 => cnt p a n + bI (p (a + n))
def ct (p : Int → Bool) (a b : Int) : Int := cnt p a (b - a).toNat
theorem cnt_rng (p : Int → Bool) (a : Int) : ∀ n, 0 ≤ cnt p a n ∧ cnt p a n ≤ n
  | 0 => by simp [cnt]
  | n + 1 => by
    have h := cnt_rng p a n
    have h2 := bI_01 (p (a + n))
    simp only [cnt]
    omega
theorem ct_rng (p : Int → Bool) (a b : Int) (h : a ≤ b) : 0 ≤ ct p a b ∧ ct p a b ≤ b - a := by
  have := cnt_rng p a (b - a).toNat
  unfold ct
  omega
theorem ct_self (p : Int → Bool) (a : Int) : ct p a a = 0 := by simp [ct, cnt]
theorem ct_up {p : Int → Bool} {a b : Int} (h : a ≤ b) : ct p a (b + 1) = ct p a b + bI (p b) := by
  unfold ct
  rw [show (b + 1 - a).toNat = (b - a).toNat + 1 by omega]
  simp only [cnt]
  rw [show a + ((b - a).toNat : Int) = b by omega]
theorem ct_down {p : Int → Bool} {a : Int} : ∀ {b : Int}, a < b → ct p a b = bI (p a) + ct p (a + 1) b := by
  intro b h
  obtain ⟨n, hn⟩ : ∃ n : Nat, b = a + 1 + n := ⟨(b - (a + 1)).toNat, by omega⟩
  subst hn
  clear h
  induction n with
  | zero => rw [show a + 1 + ((0 : Nat) : Int) = a + 1 by omega, ct_up (Int.le_refl a), ct_self, ct_self]; omega
  | succ n ih =>
    rw [show a + 1 + ((n + 1 : Nat) : Int) = (a + 1 + n) + 1 by omega, ct_up (by omega), ih, ct_up (by omega)]
    omega
theorem ct_cong {p q : Int → Bool} {a b : Int} (h : ∀ d, a ≤ d → d < b → p d = q d) : ct p a b = ct q a b := by
  unfold ct
  have : ∀ n : Nat, (n : Int) ≤ b - a → cnt p a n = cnt q a n := by
    intro n
    induction n with
    | zero => intro _; rfl
    | succ n ih =>
      intro hn
      simp only [cnt]
      rw [ih (by omega), h (a + n) (by omega) (by omega)]
  by_cases hab : a ≤ b
  · exact this _ (by omega)
  · rw [show (b - a).toNat = 0 by omega]; rfl
theorem ct_split {p : Int → Bool} {a b c : Int} (h1 : a ≤ b) (h2 : b ≤ c) : ct p a c = ct p a b + ct p b c := by
  obtain ⟨n, hn⟩ : ∃ n : Nat, c = b + n := ⟨(c - b).toNat, by omega⟩
  subst hn
  clear h2
  induction n with
  | zero => rw [show b + ((0 : Nat) : Int) = b by omega, ct_self]; omega
  | succ n ih => rw [show b + ((n + 1 : Nat) : Int) = b + n + 1 by omega, ct_up (by omega), ct_up (by omega), ih]; omega
theorem ct_mono {p : Int → Bool} {a b c : Int} (h1 : a ≤ b) (h2 : b ≤ c) : ct p a b ≤ ct p a c := by
  rw [ct_split h1 h2]
  have := ct_rng p b c h2
  omega
/-- the numbers of the holidays in the cells -/
def CH (h : Int → Bool) (M : Nat → Int → Int) : Prop := ∀ d : Int, 0 ≤ d → d < 720 → M 2 d = bI (h d)
theorem wk_t {h : Int → Bool} {d : Int} (h1 : ¬ 5 ≤ d % 7) (h2 : h d = false) : true = wk h d := by
  simp only [wk, h2]
  simp
  omega
theorem wk_f1 {h : Int → Bool} {d : Int} (h1 : 5 ≤ d % 7) : false = wk h d := by
  simp only [wk]
  rw [decide_eq_false (by omega)]
  rfl
theorem wk_f2 {h : Int → Bool} {d : Int} (h2 : h d = true) : false = wk h d := by simp [wk, h2]
/-- the number of a working day in its month, from its start and from its end; 0 for a day off -/
def NS (h : Int → Bool) (d : Int) : Int := if wk h d = true then ct (wk h) (d - d % 30) (d + 1) else 0
def NE (h : Int → Bool) (d : Int) : Int := if wk h d = true then ct (wk h) d (d - d % 30 + 30) else 0
theorem fill_up {M1 : Nat → Int → Int} {F G : Int → Int} {k : Nat} {a d v : Int} (h : ∀ j, M1 k j = if a ≤ j ∧ j < d then F j else G j) (had : a ≤ d) (hv : v = F d) : ∀ j, upM M1 k d v k j = if a ≤ j ∧ j < d + 1 then F j else G j := by
  intro j
  by_cases hj : j = d
  · subst hj
    rw [upM_s, if_pos (by omega), hv]
  · rw [upM_n (Or.inr hj), h j]
    by_cases h1 : a ≤ j ∧ j < d
    · rw [if_pos h1, if_pos (by omega)]
    · rw [if_neg h1, if_neg (by omega)]
theorem fill_0 {f G : Int → Int} {F : Int → Int} {a : Int} (h : ∀ j, f j = G j) : ∀ j, f j = if a ≤ j ∧ j < a then F j else G j := fun j => by rw [if_neg (by omega), h j]
def CalI (h : Int → Bool) (M : Nat → Int → Int) : Prop := CH h M ∧ ∀ d : Int, 0 ≤ d → d < 720 → M 3 d = NS h d ∧ M 4 d = NE h d
theorem CH.same {h : Int → Bool} {M M1 : Nat → Int → Int} (hc : CH h M) (e : M1 2 = M 2) : CH h M1 := fun d h0 h1 => by rw [e]; exact hc d h0 h1
theorem CalI.same {h : Int → Bool} {M M1 : Nat → Int → Int} (hc : CalI h M) (e2 : M1 2 = M 2) (e3 : M1 3 = M 3) (e4 : M1 4 = M 4) : CalI h M1 := ⟨hc.1.same e2, fun d h0 h1 => by rw [e3, e4]; exact hc.2 d h0 h1⟩
end
section
set_option maxHeartbeats 4000000 in
set_option maxRecDepth 100000 in
theorem c_isDay (l : Launch) (D : va_G) (cy : Nat → ClassId) (sa : Nat → Addr) (hfl : l.stackTraces = false) (ws : va_W) (d : Int) (hd : inR d) : Ct l D cy sa yX2_isDay cX2_isDay 1 (some .boolean) 0 0 0 ws [vi d] (fun v ws2 => v = some (vi (bI (isDy d))) ∧ ws2 = ws) no_x := by
  refine Ct.of (own := RX2) (lc := [(0, vi d)]) (by decide +kernel) hfl (Nat.le_of_ble_eq_true rfl) rfl rfl ?_
  intro p e s m args below meth c A C hex hnm
  generalize hQ : vx_MQ below (Qo D (fun v ws2 => v = some (vi (bI (isDy d))) ∧ ws2 = ws) A) (Xo D no_x A) args s 0 0 A = Q
  replace hQ := hQ.symm
  obtain ⟨hd1, hd2⟩ := hd
  refine V.iload_n C dX2_isDay_0 0 rfl ?_
  refine V.if_lt C 15 dX2_isDay_1 (by decide) ⟨by omega, by omega⟩ (fun h1 => ?_) (fun h1 => ?_)
  · skip
    refine V.iconst C dX2_isDay_15 ?_
    show V D 1 A p l e (rmL 0 0 0) s m args below meth c Q 0 0 ws 16 [(0, vi d)] [vi (bI false)]
    rw [hQ]
    exact V.zret C dX2_isDay_16 (by decide) (by decide) (⟨rb (by first | exact (isDy_f (by omega)).symm | exact (isDy_t (by omega) (by omega)).symm), rfl⟩)
  · skip
    refine V.iload_n C dX2_isDay_4 0 rfl ?_
    refine V.sipush C dX2_isDay_5 (by decide) ?_
    refine V.icmp_ge C 15 dX2_isDay_8 (by decide) ⟨by omega, by omega⟩ ⟨by decide, by decide⟩ (fun h8 => ?_) (fun h8 => ?_)
    · skip
      refine V.iconst C dX2_isDay_15 ?_
      show V D 1 A p l e (rmL 0 0 0) s m args below meth c Q 0 0 ws 16 [(0, vi d)] [vi (bI false)]
      rw [hQ]
      exact V.zret C dX2_isDay_16 (by decide) (by decide) (⟨rb (by first | exact (isDy_f (by omega)).symm | exact (isDy_t (by omega) (by omega)).symm), rfl⟩)
    · skip
      refine V.iconst C dX2_isDay_11 ?_
      refine V.goto C 16 dX2_isDay_12 (by decide) ?_
      show V D 1 A p l e (rmL 0 0 0) s m args below meth c Q 0 0 ws 16 [(0, vi d)] [vi (bI true)]
      rw [hQ]
      exact V.zret C dX2_isDay_16 (by decide) (by decide) (⟨rb (by first | exact (isDy_f (by omega)).symm | exact (isDy_t (by omega) (by omega)).symm), rfl⟩)
set_option maxHeartbeats 4000000 in
set_option maxRecDepth 100000 in
theorem c_works (l : Launch) (D : va_G) (cy : Nat → ClassId) (sa : Nat → Addr) (hfl : l.stackTraces = false) (ad : Nat → Nat) (n : Nat) (M : Nat → Int → Int) (h : Int → Bool) (d : Int) (h0 : 0 ≤ d) (h1 : d < 720) (hh : CH h M) : Ct l D cy sa yX0_works cX0_works 2 (some .boolean) 1 0 0 (cl cy (sa 100) ad n M) [.ref (ad 1), vi d] (fun v ws2 => v = some (vi (bI (wk h d))) ∧ ws2 = cl cy (sa 100) ad n M) no_x := by
  refine Ct.of (own := RX0) (lc := [(0, .ref (ad 1)), (1, vi d)]) (by decide +kernel) hfl (Nat.le_of_ble_eq_true rfl) rfl rfl ?_
  intro p e s m args below meth c A C hex hnm
  generalize hQ : vx_MQ below (Qo D (fun v ws2 => v = some (vi (bI (wk h d))) ∧ ws2 = cl cy (sa 100) ad n M) A) (Xo D no_x A) args s 0 0 A = Q
  replace hQ := hQ.symm
  refine V.iload_n C dX0_works_0 1 rfl ?_
  refine V.callN C (As := [vi d]) (st := []) (wr := []) (by decide : (RX0, 26) ∈ xNest) (c_isDay l D cy sa hfl _ d ⟨by omega, by omega⟩) rfl rfl rfl (Nat.le_of_ble_eq_true rfl) ⟨by decide, by decide⟩ ⟨by decide, by decide⟩ dX0_works_1 (fun _ _ h => h.elim) (fun v1 w2 r3 => ?_)
  obtain ⟨rfl, rfl⟩ := r3
  show V D 2 A p l e (rmL 1 0 0) s m args below meth c Q 0 0 (cl cy (sa 100) ad n M) 4 [(0, .ref (ad 1)), (1, vi d)] [vi (bI (isDy d))]
  refine V.if_eqB C 28 dX0_works_4 (by decide) (fun h4 => (by rw [isDy_t (by omega) (by omega)] at h4; exact absurd h4 (by decide))) (fun h4 => ?_)
  refine V.iload_n C dX0_works_7 1 rfl ?_
  refine V.bipush C dX0_works_8 (by decide) ?_
  refine V.irem C dX0_works_10 ⟨by omega, by omega⟩ (by omega) ⟨by omega, by omega⟩ (by omega) ?_
  refine V.iconst C dX0_works_11 ?_
  refine V.icmp_ge C 28 dX0_works_12 (by decide) ⟨by omega, by omega⟩ ⟨by decide, by decide⟩ (fun h12 => ?_) (fun h12 => ?_)
  · skip
    refine V.iconst C dX0_works_28 ?_
    show V D 2 A p l e (rmL 1 0 0) s m args below meth c Q 0 0 (cl cy (sa 100) ad n M) 29 [(0, .ref (ad 1)), (1, vi d)] [vi (bI false)]
    rw [hQ]
    exact V.zret C dX0_works_29 (by decide) (by decide) (⟨rb (by first | exact wk_f1 h12 | exact wk_f2 h21 | exact wk_t h12 h21), rfl⟩)
  · skip
    refine V.aload_n C dX0_works_15 0 rfl ?_
    refine V.getf C (v := .ref (ad 2)) 1 cl_1 rfl inX0 0 (by decide) fl_X0_9 (fun _ h => h) rfl dX0_works_16 ?_
    refine V.iload_n C dX0_works_19 1 rfl ?_
    refine V.zald C (v := bI (h d)) 2 cl_2 (by omega) (by omega) (by decide) (ld_ar (by omega) (hh d h0 h1)) dX0_works_20 ?_
    refine V.if_neB C 28 dX0_works_21 (by decide) (fun h21 => ?_) (fun h21 => ?_)
    · skip
      refine V.iconst C dX0_works_28 ?_
      show V D 2 A p l e (rmL 1 0 0) s m args below meth c Q 0 0 (cl cy (sa 100) ad n M) 29 [(0, .ref (ad 1)), (1, vi d)] [vi (bI false)]
      rw [hQ]
      exact V.zret C dX0_works_29 (by decide) (by decide) (⟨rb (by first | exact wk_f1 h12 | exact wk_f2 h21 | exact wk_t h12 h21), rfl⟩)
    · skip
      refine V.iconst C dX0_works_24 ?_
      refine V.goto C 29 dX0_works_25 (by decide) ?_
      show V D 2 A p l e (rmL 1 0 0) s m args below meth c Q 0 0 (cl cy (sa 100) ad n M) 29 [(0, .ref (ad 1)), (1, vi d)] [vi (bI true)]
      rw [hQ]
      exact V.zret C dX0_works_29 (by decide) (by decide) (⟨rb (by first | exact wk_f1 h12 | exact wk_f2 h21 | exact wk_t h12 h21), rfl⟩)
set_option maxHeartbeats 4000000 in
set_option maxRecDepth 100000 in
theorem c_numberFromStart (l : Launch) (D : va_G) (cy : Nat → ClassId) (sa : Nat → Addr) (hfl : l.stackTraces = false) (ad : Nat → Nat) (n : Nat) (M : Nat → Int → Int) (d : Int) (h0 : 0 ≤ d) (h1 : d < 720) : Ct l D cy sa yX0_numberFromStart cX0_numberFromStart 2 (some .int) 1 0 0 (cl cy (sa 100) ad n M) [.ref (ad 1), vi d] (fun v ws2 => v = some (vi (M 3 d)) ∧ ws2 = cl cy (sa 100) ad n M) no_x := by
  refine Ct.of (own := RX0) (lc := [(0, .ref (ad 1)), (1, vi d)]) (by decide +kernel) hfl (Nat.le_of_ble_eq_true rfl) rfl rfl ?_
  intro p e s m args below meth c A C hex hnm
  generalize hQ : vx_MQ below (Qo D (fun v ws2 => v = some (vi (M 3 d)) ∧ ws2 = cl cy (sa 100) ad n M) A) (Xo D no_x A) args s 0 0 A = Q
  replace hQ := hQ.symm
  refine V.iload_n C dX0_numberFromStart_0 1 rfl ?_
  refine V.callN C (As := [vi d]) (st := []) (wr := []) (by decide : (RX0, 26) ∈ xNest) (c_isDay l D cy sa hfl _ d ⟨by omega, by omega⟩) rfl rfl rfl (Nat.le_of_ble_eq_true rfl) ⟨by decide, by decide⟩ ⟨by decide, by decide⟩ dX0_numberFromStart_1 (fun _ _ h => h.elim) (fun v1 w2 r3 => ?_)
  obtain ⟨rfl, rfl⟩ := r3
  show V D 2 A p l e (rmL 1 0 0) s m args below meth c Q 0 0 (cl cy (sa 100) ad n M) 4 [(0, .ref (ad 1)), (1, vi d)] [vi (bI (isDy d))]
  refine V.if_eqB C 16 dX0_numberFromStart_4 (by decide) (fun h4 => (by rw [isDy_t (by omega) (by omega)] at h4; exact absurd h4 (by decide))) (fun h4 => ?_)
  refine V.aload_n C dX0_numberFromStart_7 0 rfl ?_
  refine V.getf C (v := .ref (ad 3)) 1 cl_1 rfl inX0 1 (by decide) fl_X0_15 (fun _ h => h) rfl dX0_numberFromStart_8 ?_
  refine V.iload_n C dX0_numberFromStart_11 1 rfl ?_
  refine V.iald C (v := M 3 d) 3 cl_3 (by omega) (by omega) (by decide) (ld_ar (by omega) rfl) dX0_numberFromStart_12 ?_
  refine V.goto C 17 dX0_numberFromStart_13 (by decide) ?_
  rw [hQ]
  exact V.iret C dX0_numberFromStart_17 (by decide) (by decide) (⟨rfl, rfl⟩)
set_option maxHeartbeats 4000000 in
set_option maxRecDepth 100000 in
theorem c_numberFromEnd (l : Launch) (D : va_G) (cy : Nat → ClassId) (sa : Nat → Addr) (hfl : l.stackTraces = false) (ad : Nat → Nat) (n : Nat) (M : Nat → Int → Int) (d : Int) (h0 : 0 ≤ d) (h1 : d < 720) : Ct l D cy sa yX0_numberFromEnd cX0_numberFromEnd 2 (some .int) 1 0 0 (cl cy (sa 100) ad n M) [.ref (ad 1), vi d] (fun v ws2 => v = some (vi (M 4 d)) ∧ ws2 = cl cy (sa 100) ad n M) no_x := by
  refine Ct.of (own := RX0) (lc := [(0, .ref (ad 1)), (1, vi d)]) (by decide +kernel) hfl (Nat.le_of_ble_eq_true rfl) rfl rfl ?_
  intro p e s m args below meth c A C hex hnm
  generalize hQ : vx_MQ below (Qo D (fun v ws2 => v = some (vi (M 4 d)) ∧ ws2 = cl cy (sa 100) ad n M) A) (Xo D no_x A) args s 0 0 A = Q
  replace hQ := hQ.symm
  refine V.iload_n C dX0_numberFromEnd_0 1 rfl ?_
  refine V.callN C (As := [vi d]) (st := []) (wr := []) (by decide : (RX0, 26) ∈ xNest) (c_isDay l D cy sa hfl _ d ⟨by omega, by omega⟩) rfl rfl rfl (Nat.le_of_ble_eq_true rfl) ⟨by decide, by decide⟩ ⟨by decide, by decide⟩ dX0_numberFromEnd_1 (fun _ _ h => h.elim) (fun v1 w2 r3 => ?_)
  obtain ⟨rfl, rfl⟩ := r3
  show V D 2 A p l e (rmL 1 0 0) s m args below meth c Q 0 0 (cl cy (sa 100) ad n M) 4 [(0, .ref (ad 1)), (1, vi d)] [vi (bI (isDy d))]
  refine V.if_eqB C 16 dX0_numberFromEnd_4 (by decide) (fun h4 => (by rw [isDy_t (by omega) (by omega)] at h4; exact absurd h4 (by decide))) (fun h4 => ?_)
  refine V.aload_n C dX0_numberFromEnd_7 0 rfl ?_
  refine V.getf C (v := .ref (ad 4)) 1 cl_1 rfl inX0 2 (by decide) fl_X0_19 (fun _ h => h) rfl dX0_numberFromEnd_8 ?_
  refine V.iload_n C dX0_numberFromEnd_11 1 rfl ?_
  refine V.iald C (v := M 4 d) 4 cl_4 (by omega) (by omega) (by decide) (ld_ar (by omega) rfl) dX0_numberFromEnd_12 ?_
  refine V.goto C 17 dX0_numberFromEnd_13 (by decide) ?_
  rw [hQ]
  exact V.iret C dX0_numberFromEnd_17 (by decide) (by decide) (⟨rfl, rfl⟩)
theorem ns_t {h : Int → Bool} {a d w : Int} (e3 : w = ct (wk h) a d) (e1 : a ≤ d) (hm : d - d % 30 = a) (h40 : wk h d = true) : w + 1 = NS h d := by
  rw [NS, if_pos h40, hm, ct_up e1, ← e3, h40]; rfl
theorem ns_f {h : Int → Bool} {d : Int} (h40 : wk h d = false) : 0 = NS h d := by rw [NS, h40]; rfl
theorem ne_t {h : Int → Bool} {a d x : Int} (e1 : a ≤ d) (e2 : d < a + 30) (hm : d - d % 30 = a) (h40 : wk h d = true) (hx : x = if a ≤ d ∧ d < a + 30 then NS h d else 0) : ct (wk h) a (a + 30) + 1 - x = NE h d := by
  rw [hx, if_pos ⟨e1, e2⟩, NS, NE, if_pos h40, if_pos h40, hm, ct_split (show a ≤ d + 1 by omega) (show d + 1 ≤ a + 30 by omega), ct_down e2, h40]
  have : bI true = 1 := rfl
  omega
theorem ne_f {h : Int → Bool} {d : Int} (h40 : wk h d = false) : 0 = NE h d := by rw [NE, h40]; rfl
def mon (h : Int → Bool) (day : Int) (M M2 : Nat → Int → Int) : Prop := (∀ k, k ≠ 3 → k ≠ 4 → M2 k = M k) ∧ (∀ d, M2 3 d = if day - day % 30 ≤ d ∧ d < day - day % 30 + 30 then NS h d else M 3 d) ∧ ∀ d, M2 4 d = if day - day % 30 ≤ d ∧ d < day - day % 30 + 30 then NE h d else M 4 d
set_option maxHeartbeats 4000000 in
set_option maxRecDepth 100000 in
theorem c_numberMonthOf (l : Launch) (D : va_G) (cy : Nat → ClassId) (sa : Nat → Addr) (hfl : l.stackTraces = false) (ad : Nat → Nat) (n : Nat) (M : Nat → Int → Int) (h : Int → Bool) (day : Int) (h0 : 0 ≤ day) (h1 : day < 720) (hh : CH h M) : Ct l D cy sa yX0_numberMonthOf cX0_numberMonthOf 6 none 2 0 0 (cl cy (sa 100) ad n M) [.ref (ad 1), vi day] (fun v ws2 => v = none ∧ ∃ M2, ws2 = cl cy (sa 100) ad n M2 ∧ mon h day M M2) no_x := by
  refine Ct.of (own := RX0) (lc := [(0, .ref (ad 1)), (1, vi day)]) (by decide +kernel) hfl (Nat.le_of_ble_eq_true rfl) rfl rfl ?_
  intro p e s m args below meth c A C hex hnm
  generalize hQ : vx_MQ below (Qo D (fun v ws2 => v = none ∧ ∃ M2, ws2 = cl cy (sa 100) ad n M2 ∧ mon h day M M2) A) (Xo D no_x A) args s 0 0 A = Q
  replace hQ := hQ.symm
  obtain ⟨a, ha⟩ : ∃ a, a = day - day % 30 := ⟨_, rfl⟩
  refine V.iload_n C dX0_numberMonthOf_0 1 rfl ?_
  refine V.iload_n C dX0_numberMonthOf_1 1 rfl ?_
  refine V.bipush C dX0_numberMonthOf_2 (by decide) ?_
  refine V.irem C dX0_numberMonthOf_4 ⟨by omega, by omega⟩ (by omega) ⟨by omega, by omega⟩ (by omega) ?_
  refine V.isub C dX0_numberMonthOf_5 ?_
  rw [show (day - (day % 30)) = a from (ha.symm)]
  refine V.istore_n C (lc2 := [(2, vi a), (0, .ref (ad 1)), (1, vi day)]) dX0_numberMonthOf_6 (by decide) rfl ?_
  refine V.iload_n C dX0_numberMonthOf_7 0 rfl ?_
  refine V.bipush C dX0_numberMonthOf_8 (by decide) ?_
  refine V.iadd C dX0_numberMonthOf_10 ?_
  refine V.iconst C dX0_numberMonthOf_11 ?_
  refine V.isub C dX0_numberMonthOf_12 ?_
  refine V.istore_n C (lc2 := [(3, vi ((a + 30) - 1)), (2, vi a), (0, .ref (ad 1)), (1, vi day)]) dX0_numberMonthOf_13 (by decide) rfl ?_
  refine V.iconst C dX0_numberMonthOf_14 ?_
  refine V.istore C (lc2 := [(4, vi 0), (3, vi ((a + 30) - 1)), (2, vi a), (0, .ref (ad 1)), (1, vi day)]) dX0_numberMonthOf_15 (by decide) rfl ?_
  refine V.iload_n C dX0_numberMonthOf_17 2 rfl ?_
  refine V.istore C (lc2 := [(5, vi a), (4, vi 0), (3, vi ((a + 30) - 1)), (2, vi a), (0, .ref (ad 1)), (1, vi day)]) dX0_numberMonthOf_18 (by decide) rfl ?_
  have loop20 : ∀ (f : Nat) (d : Int) (w : Int) (M1 : Nat → Int → Int), (a ≤ d) → (d ≤ a + 30) → (w = ct (wk h) a d) → (∀ k, k ≠ 3 → M1 k = M k) → (∀ j, M1 3 j = if a ≤ j ∧ j < d then NS h j else M 3 j) → ((a + 30 - d).toNat < f) → V D 6 A p l e (rmL 2 0 0) s m args below meth c Q 0 0 (cl cy (sa 100) ad n M1) 20 [(5, vi d), (4, vi w), (3, vi (a + 30 - 1)), (2, vi a), (0, .ref (ad 1)), (1, vi day)] [] := by
    intro f
    induction f with
    | zero => intro d w M1 e1 e2 e3 e4 e5 hf; exact absurd hf (Nat.not_lt_zero _)
    | succ f ih20 =>
      intro d w M1 e1 e2 e3 e4 e5 hf20
      refine V.iload C dX0_numberMonthOf_20 0 rfl ?_
      refine V.iload_n C dX0_numberMonthOf_22 2 rfl ?_
      refine V.icmp_gt C 74 dX0_numberMonthOf_23 (by decide) ⟨by omega, by omega⟩ ⟨by omega, by omega⟩ (fun h23 => ?_) (fun h23 => ?_)
      · skip
        refine V.iload_n C dX0_numberMonthOf_74 3 rfl ?_
        refine V.istore C (lc2 := [(5, vi a), (4, vi w), (3, vi (a + 30 - 1)), (2, vi a), (0, .ref (ad 1)), (1, vi day)]) dX0_numberMonthOf_75 (by decide) rfl ?_
        have loop77 : ∀ (f : Nat) (d : Int) (M2 : Nat → Int → Int), (a ≤ d) → (d ≤ a + 30) → (∀ k, k ≠ 3 → k ≠ 4 → M2 k = M k) → (∀ j, M2 3 j = if a ≤ j ∧ j < a + 30 then NS h j else M 3 j) → (∀ j, M2 4 j = if a ≤ j ∧ j < d then NE h j else M 4 j) → ((a + 30 - d).toNat < f) → V D 6 A p l e (rmL 2 0 0) s m args below meth c Q 0 0 (cl cy (sa 100) ad n M2) 77 [(5, vi d), (4, vi (ct (wk h) a (a + 30))), (3, vi (a + 30 - 1)), (2, vi a), (0, .ref (ad 1)), (1, vi day)] [] := by
          intro f
          induction f with
          | zero => intro d M2 g1 g2 g4 g3 g5 hf; exact absurd hf (Nat.not_lt_zero _)
          | succ f ih77 =>
            intro d M2 g1 g2 g4 g3 g5 hf77
            refine V.iload C dX0_numberMonthOf_77 0 rfl ?_
            refine V.iload_n C dX0_numberMonthOf_79 2 rfl ?_
            refine V.icmp_gt C 129 dX0_numberMonthOf_80 (by decide) ⟨by omega, by omega⟩ ⟨by omega, by omega⟩ (fun h80 => ?_) (fun h80 => ?_)
            · skip
              rw [hQ]
              exact V.vret C dX0_numberMonthOf_129 (by decide) (by decide) (⟨rfl, M2, rfl, g4, by rw [← ha]; exact g3, fun d1 => by have := g5 d1; rw [show d = a + 30 by omega, ha] at this; exact this⟩)
            · skip
              refine V.iload C dX0_numberMonthOf_83 0 rfl ?_
              refine V.callN C (As := [vi d]) (st := []) (wr := []) (by decide : (RX0, 26) ∈ xNest) (c_isDay l D cy sa hfl _ d ⟨by omega, by omega⟩) rfl rfl rfl (Nat.le_of_ble_eq_true rfl) ⟨by decide, by decide⟩ ⟨by decide, by decide⟩ dX0_numberMonthOf_85 (fun _ _ h => h.elim) (fun v1 w2 r3 => ?_)
              obtain ⟨rfl, rfl⟩ := r3
              show V D 6 A p l e (rmL 2 0 0) s m args below meth c Q 0 0 (cl cy (sa 100) ad n M2) 88 [(5, vi d), (4, vi (ct (wk h) a (a + 30))), (3, vi (a + 30 - 1)), (2, vi a), (0, .ref (ad 1)), (1, vi day)] [vi (bI (isDy d))]
              refine V.if_eqB C 129 dX0_numberMonthOf_88 (by decide) (fun h88 => (by rw [isDy_t (by omega) (by omega)] at h88; exact absurd h88 (by decide))) (fun h88 => ?_)
              refine V.aload_n C dX0_numberMonthOf_91 4 rfl ?_
              refine V.getf C (v := .ref (ad 4)) 1 cl_1 rfl inX0 2 (by decide) fl_X0_19 (fun _ h => h) rfl dX0_numberMonthOf_92 ?_
              refine V.iload C dX0_numberMonthOf_95 0 rfl ?_
              refine V.aload_n C dX0_numberMonthOf_97 4 rfl ?_
              refine V.iload C dX0_numberMonthOf_98 0 rfl ?_
              refine V.callV C (As := [vi d]) (st := [vi d, .ref (ad 4)]) (wr := []) kV_X0_30 (c_works l D cy sa hfl ad n M2 h d (by omega) (by omega) (hh.same (g4 2 (by decide) (by decide)))) rfl 1 cl_1 rfl rfl rfl (Nat.le_of_ble_eq_true rfl) ⟨by decide, by decide⟩ ⟨by decide, by decide⟩ dX0_numberMonthOf_100 (fun _ _ h => h.elim) (fun v4 w5 r6 => ?_)
              obtain ⟨rfl, rfl⟩ := r6
              show V D 6 A p l e (rmL 2 0 0) s m args below meth c Q 0 0 (cl cy (sa 100) ad n M2) 103 [(5, vi d), (4, vi (ct (wk h) a (a + 30))), (3, vi (a + 30 - 1)), (2, vi a), (0, .ref (ad 1)), (1, vi day)] [vi (bI (wk h d)), vi d, .ref (ad 4)]
              refine V.if_eqB C 121 dX0_numberMonthOf_103 (by decide) (fun h103 => ?_) (fun h103 => ?_)
              · skip
                refine V.iconst C dX0_numberMonthOf_121 ?_
                refine V.iast C 4 cl_4 (by omega) (by omega) (by decide) dX0_numberMonthOf_122 (put_4 (by omega)) ?_
                refine V.iinc C (lc2 := [(5, vi (d + 1)), (4, vi (ct (wk h) a (a + 30))), (3, vi (a + 30 - 1)), (2, vi a), (0, .ref (ad 1)), (1, vi day)]) dX0_numberMonthOf_123 0 rfl (by decide) rfl ?_
                refine V.goto C 77 dX0_numberMonthOf_126 (by decide) ?_
                exact ih77 (d + 1) (upM M2 4 d 0) (by omega) (by omega) (fun k h3 h4 => (upM_off h4).trans (g4 k h3 h4)) (by rw [upM_off (by decide)]; exact g3) (fill_up g5 g1 (by first | exact ne_t g1 (by omega) (by omega) h103 (by have := g3 d; rw [if_pos ⟨g1, by omega⟩] at this ⊢; exact this) | exact ne_f h103)) (by omega)
              · skip
                refine V.iload C dX0_numberMonthOf_106 1 rfl ?_
                refine V.iconst C dX0_numberMonthOf_108 ?_
                refine V.iadd C dX0_numberMonthOf_109 ?_
                refine V.aload_n C dX0_numberMonthOf_110 4 rfl ?_
                refine V.getf C (v := .ref (ad 3)) 1 cl_1 rfl inX0 1 (by decide) fl_X0_15 (fun _ h => h) rfl dX0_numberMonthOf_111 ?_
                refine V.iload C dX0_numberMonthOf_114 0 rfl ?_
                refine V.iald C (v := M2 3 d) 3 cl_3 (by omega) (by omega) (by decide) (ld_ar (by omega) rfl) dX0_numberMonthOf_116 ?_
                refine V.isub C dX0_numberMonthOf_117 ?_
                refine V.goto C 122 dX0_numberMonthOf_118 (by decide) ?_
                refine V.iast C 4 cl_4 (by omega) (by omega) (by decide) dX0_numberMonthOf_122 (put_4 (by omega)) ?_
                refine V.iinc C (lc2 := [(5, vi (d + 1)), (4, vi (ct (wk h) a (a + 30))), (3, vi (a + 30 - 1)), (2, vi a), (0, .ref (ad 1)), (1, vi day)]) dX0_numberMonthOf_123 0 rfl (by decide) rfl ?_
                refine V.goto C 77 dX0_numberMonthOf_126 (by decide) ?_
                exact ih77 (d + 1) (upM M2 4 d (((ct (wk h) a (a + 30)) + 1) - (M2 3 d))) (by omega) (by omega) (fun k h3 h4 => (upM_off h4).trans (g4 k h3 h4)) (by rw [upM_off (by decide)]; exact g3) (fill_up g5 g1 (by first | exact ne_t g1 (by omega) (by omega) h103 (by have := g3 d; rw [if_pos ⟨g1, by omega⟩] at this ⊢; exact this) | exact ne_f h103)) (by omega)
        rw [show w = ct (wk h) a (a + 30) by rw [e3]; congr 1; omega]
        exact loop77 _ a M1 (by omega) (by omega) (fun k h3 _ => e4 k h3) (by rw [show d = a + 30 by omega] at e5; exact e5) (fill_0 fun j => by rw [e4 4 (by decide)]) (Nat.lt_succ_self _)
      · skip
        refine V.iload C dX0_numberMonthOf_26 0 rfl ?_
        refine V.callN C (As := [vi d]) (st := []) (wr := []) (by decide : (RX0, 26) ∈ xNest) (c_isDay l D cy sa hfl _ d ⟨by omega, by omega⟩) rfl rfl rfl (Nat.le_of_ble_eq_true rfl) ⟨by decide, by decide⟩ ⟨by decide, by decide⟩ dX0_numberMonthOf_28 (fun _ _ h => h.elim) (fun v7 w8 r9 => ?_)
        obtain ⟨rfl, rfl⟩ := r9
        show V D 6 A p l e (rmL 2 0 0) s m args below meth c Q 0 0 (cl cy (sa 100) ad n M1) 31 [(5, vi d), (4, vi w), (3, vi (a + 30 - 1)), (2, vi a), (0, .ref (ad 1)), (1, vi day)] [vi (bI (isDy d))]
        refine V.if_eqB C 74 dX0_numberMonthOf_31 (by decide) (fun h31 => (by rw [isDy_t (by omega) (by omega)] at h31; exact absurd h31 (by decide))) (fun h31 => ?_)
        refine V.aload_n C dX0_numberMonthOf_34 4 rfl ?_
        refine V.iload C dX0_numberMonthOf_35 0 rfl ?_
        refine V.callV C (As := [vi d]) (st := []) (wr := []) kV_X0_30 (c_works l D cy sa hfl ad n M1 h d (by omega) (by omega) (hh.same (e4 2 (by decide)))) rfl 1 cl_1 rfl rfl rfl (Nat.le_of_ble_eq_true rfl) ⟨by decide, by decide⟩ ⟨by decide, by decide⟩ dX0_numberMonthOf_37 (fun _ _ h => h.elim) (fun v10 w11 r12 => ?_)
        obtain ⟨rfl, rfl⟩ := r12
        show V D 6 A p l e (rmL 2 0 0) s m args below meth c Q 0 0 (cl cy (sa 100) ad n M1) 40 [(5, vi d), (4, vi w), (3, vi (a + 30 - 1)), (2, vi a), (0, .ref (ad 1)), (1, vi day)] [vi (bI (wk h d))]
        refine V.if_eqB C 46 dX0_numberMonthOf_40 (by decide) (fun h40 => ?_) (fun h40 => ?_)
        · skip
          skip
          refine V.aload_n C dX0_numberMonthOf_46 4 rfl ?_
          refine V.getf C (v := .ref (ad 3)) 1 cl_1 rfl inX0 1 (by decide) fl_X0_15 (fun _ h => h) rfl dX0_numberMonthOf_47 ?_
          refine V.iload C dX0_numberMonthOf_50 0 rfl ?_
          refine V.aload_n C dX0_numberMonthOf_52 4 rfl ?_
          refine V.iload C dX0_numberMonthOf_53 0 rfl ?_
          refine V.callV C (As := [vi d]) (st := [vi d, .ref (ad 3)]) (wr := []) kV_X0_30 (c_works l D cy sa hfl ad n M1 h d (by omega) (by omega) (hh.same (e4 2 (by decide)))) rfl 1 cl_1 rfl rfl rfl (Nat.le_of_ble_eq_true rfl) ⟨by decide, by decide⟩ ⟨by decide, by decide⟩ dX0_numberMonthOf_55 (fun _ _ h => h.elim) (fun v13 w14 r15 => ?_)
          obtain ⟨rfl, rfl⟩ := r15
          show V D 6 A p l e (rmL 2 0 0) s m args below meth c Q 0 0 (cl cy (sa 100) ad n M1) 58 [(5, vi d), (4, vi w), (3, vi (a + 30 - 1)), (2, vi a), (0, .ref (ad 1)), (1, vi day)] [vi (bI (wk h d)), vi d, .ref (ad 3)]
          refine V.if_eqB C 66 dX0_numberMonthOf_58 (by decide) (fun h58 => ?_) (fun h58 => (by rw [h40] at h58; exact absurd h58 (by decide)))
          refine V.iconst C dX0_numberMonthOf_66 ?_
          refine V.iast C 3 cl_3 (by omega) (by omega) (by decide) dX0_numberMonthOf_67 (put_3 (by omega)) ?_
          refine V.iinc C (lc2 := [(5, vi (d + 1)), (4, vi w), (3, vi (a + 30 - 1)), (2, vi a), (0, .ref (ad 1)), (1, vi day)]) dX0_numberMonthOf_68 0 rfl (by decide) rfl ?_
          refine V.goto C 20 dX0_numberMonthOf_71 (by decide) ?_
          exact ih20 (d + 1) w (upM M1 3 d 0) (by omega) (by omega) (by rw [ct_up e1, ← e3, h40]; simp [bI]) (fun k hk => (upM_off hk).trans (e4 k hk)) (fill_up e5 e1 (by first | exact ns_t e3 e1 (by omega) h40 | exact ns_f h40)) (by omega)
        · skip
          skip
          refine V.iinc C (lc2 := [(4, vi (w + 1)), (5, vi d), (3, vi (a + 30 - 1)), (2, vi a), (0, .ref (ad 1)), (1, vi day)]) dX0_numberMonthOf_43 1 rfl (by decide) rfl ?_
          refine V.aload_n C dX0_numberMonthOf_46 4 rfl ?_
          refine V.getf C (v := .ref (ad 3)) 1 cl_1 rfl inX0 1 (by decide) fl_X0_15 (fun _ h => h) rfl dX0_numberMonthOf_47 ?_
          refine V.iload C dX0_numberMonthOf_50 1 rfl ?_
          refine V.aload_n C dX0_numberMonthOf_52 4 rfl ?_
          refine V.iload C dX0_numberMonthOf_53 1 rfl ?_
          refine V.callV C (As := [vi d]) (st := [vi d, .ref (ad 3)]) (wr := []) kV_X0_30 (c_works l D cy sa hfl ad n M1 h d (by omega) (by omega) (hh.same (e4 2 (by decide)))) rfl 1 cl_1 rfl rfl rfl (Nat.le_of_ble_eq_true rfl) ⟨by decide, by decide⟩ ⟨by decide, by decide⟩ dX0_numberMonthOf_55 (fun _ _ h => h.elim) (fun v16 w17 r18 => ?_)
          obtain ⟨rfl, rfl⟩ := r18
          show V D 6 A p l e (rmL 2 0 0) s m args below meth c Q 0 0 (cl cy (sa 100) ad n M1) 58 [(4, vi (w + 1)), (5, vi d), (3, vi (a + 30 - 1)), (2, vi a), (0, .ref (ad 1)), (1, vi day)] [vi (bI (wk h d)), vi d, .ref (ad 3)]
          refine V.if_eqB C 66 dX0_numberMonthOf_58 (by decide) (fun h58 => (by rw [h40] at h58; exact absurd h58 (by decide))) (fun h58 => ?_)
          refine V.iload C dX0_numberMonthOf_61 0 rfl ?_
          refine V.goto C 67 dX0_numberMonthOf_63 (by decide) ?_
          refine V.iast C 3 cl_3 (by omega) (by omega) (by decide) dX0_numberMonthOf_67 (put_3 (by omega)) ?_
          refine V.iinc C (lc2 := [(5, vi (d + 1)), (4, vi (w + 1)), (3, vi (a + 30 - 1)), (2, vi a), (0, .ref (ad 1)), (1, vi day)]) dX0_numberMonthOf_68 1 rfl (by decide) rfl ?_
          refine V.goto C 20 dX0_numberMonthOf_71 (by decide) ?_
          exact ih20 (d + 1) (w + 1) (upM M1 3 d (w + 1)) (by omega) (by omega) (by rw [ct_up e1, ← e3, h40]; simp [bI]) (fun k hk => (upM_off hk).trans (e4 k hk)) (fill_up e5 e1 (by first | exact ns_t e3 e1 (by omega) h40 | exact ns_f h40)) (by omega)
  exact loop20 _ a 0 M (by omega) (by omega) ((ct_self _ _).symm) (fun _ _ => rfl) (fill_0 fun _ => rfl) (Nat.lt_succ_self _)
end
