/-! the law's entry: what stays of the environment -/
theorem tb1 {w : Cond} {i : Nat} (h : tables_1_1[i]? = some w) : w ∈ lw_tbl := List.mem_append_right _ (List.mem_append_left _ (List.mem_of_getElem? h))
theorem tb2 {w : Cond} {i : Nat} (h : tables_1_2[i]? = some w) : w ∈ lw_tbl := List.mem_append_right _ (List.mem_append_right _ (List.mem_append_left _ (List.mem_of_getElem? h)))
theorem tb3 {w : Cond} {i : Nat} (h : tables_1_3[i]? = some w) : w ∈ lw_tbl := List.mem_append_right _ (List.mem_append_right _ (List.mem_append_right _ (List.mem_of_getElem? h)))
theorem str_in : ∀ q ∈ strL, Cond.stringRef RX2 q.1 q.2 ∈ lw_tbl :=
  List.forall_mem_cons.mpr ⟨tb1 (i := 146) (by decide +kernel), List.forall_mem_cons.mpr ⟨tb1 (i := 146) (by decide +kernel), List.forall_mem_cons.mpr ⟨tb1 (i := 235) (by decide +kernel), List.forall_mem_cons.mpr ⟨tb2 (i := 11) (by decide +kernel), List.forall_mem_cons.mpr ⟨tb2 (i := 32) (by decide +kernel), List.forall_mem_cons.mpr ⟨tb2 (i := 143) (by decide +kernel), List.forall_mem_cons.mpr ⟨tb2 (i := 152) (by decide +kernel), List.forall_mem_cons.mpr ⟨tb2 (i := 199) (by decide +kernel), List.forall_mem_cons.mpr ⟨tb3 (i := 29) (by decide +kernel), List.forall_mem_cons.mpr ⟨tb3 (i := 36) (by decide +kernel), List.forall_mem_cons.mpr ⟨tb3 (i := 45) (by decide +kernel), fun _ h => nomatch h⟩⟩⟩⟩⟩⟩⟩⟩⟩⟩⟩
theorem nest_in : ∀ q ∈ xNest, Cond.methodLinkNest q.1 q.2 yX2_isDay RX2 ∈ lw_tbl := List.forall_mem_cons.mpr ⟨tb1 (i := 38) (by decide +kernel), List.forall_mem_cons.mpr ⟨tb2 (i := 191) (by decide +kernel), fun _ h => nomatch h⟩⟩
theorem decl_in : ∀ q ∈ xDecl, Cond.declares (Bundle.initS q) ∈ lw_tbl := List.forall_mem_cons.mpr ⟨tb1 (i := 108) (by decide +kernel), List.forall_mem_cons.mpr ⟨tb1 (i := 110) (by decide +kernel), List.forall_mem_cons.mpr ⟨tb1 (i := 112) (by decide +kernel), fun _ h => nomatch h⟩⟩⟩
theorem cast_in : ∀ q ∈ xCast, Cond.castable q.1 q.2 ∈ lw_tbl := List.forall_mem_cons.mpr ⟨tb1 (i := 106) (by decide +kernel), List.forall_mem_cons.mpr ⟨tb1 (i := 228) (by decide +kernel), List.forall_mem_cons.mpr ⟨tb2 (i := 4) (by decide +kernel), List.forall_mem_cons.mpr ⟨tb3 (i := 22) (by decide +kernel), List.forall_mem_cons.mpr ⟨tb3 (i := 61) (by decide +kernel), fun _ h => nomatch h⟩⟩⟩⟩⟩
theorem len_0 {args : Array Value} {s : State} {tm : Term} (h : (Cond.eq (.length tm) (.int 0)).before args s = true) : (Term.length tm).eval args s none [] s = some (.int 0) := by
  simp only [Cond.before, Cond.holds, Cond.value] at h
  have e2 : (Term.int 0).eval args s none [] s = some (.int 0) := rfl
  rw [e2] at h
  rcases hv : (Term.length tm).eval args s none [] s with _ | v
  · rw [hv] at h; simp at h
  · rw [hv] at h
    cases v <;> simp at h
    rw [h]
def tmD : Term := Term.static RJx4a65c "DEFAULTCAPACITY_EMPTY_ELEMENTDATA" "[Ljava/lang/Object;"
theorem arr_at {args : Array Value} {s : State} {ty : FieldType} (h : (Cond.arrayClass ty).before args s = true) (hn : ∀ C : String, ty ≠ .object C) : ∃ cA : ClassId, ArrOfT s cA ty ∧ va_RA s cA ty := by
  obtain ⟨cA, k, comp, h1, h2, h3⟩ := Cond.arrayClass_spec h
  refine ⟨cA, fun n z => ⟨fun k h => (by cases h), k, h2, comp, h3⟩, ?_⟩
  cases ty <;> first | exact h1 | exact absurd rfl (hn _)
theorem arr_over {args : Array Value} {s : State} {C : String} (h : (Cond.arrayOver (.object C)).before args s = true) : ∃ cA : ClassId, ArrOfT s cA (.object C) ∧ va_RA s cA (.object C) := by
  obtain ⟨comp, cA, k, h1, h2, h3, h4, h5⟩ := Cond.arrayOver_spec h
  exact ⟨cA, fun n z => ⟨fun k h => (by cases h), k, h3, comp, h4⟩, k, comp, h3, h4, h1, h5⟩
theorem ev_start {s : State} {args : Array Value} (hts : ∀ w ∈ lw_tbl, w.before args s = true) (hg : (Jvm.Cond.and given_1 narrow_1).before args s = true) {b L : Nat} {xs : Nat → Int32} (hL : L ≤ 260) (hX : va_X b L xs s s.heap) (hbl : b < s.heap.size) : ∃ (D : va_G) (cy : Nat → ClassId) (sa : Nat → Addr), sa 101 = b ∧ Ev D cy sa (fun q => s.heap.size ≤ q) s s.heap := by
  have hA : ∀ a : Nat, a < s.heap.size → ¬ (fun q => s.heap.size ≤ q) a := fun a h1 h2 => by simp only at h2; omega
  have hG : ∀ w ∈ GW, w.before args s = true := fun w hw => hts w (gw_tbl hw)
  have fl := flat_of_before _ hg
  obtain ⟨c0, i0, k0⟩ := u_known hG inJx4a65c (hG _ it_Jx4a65c)
  obtain ⟨c1, i1, k1⟩ := u_known hG inX0 (hG _ it_X0)
  obtain ⟨c2, i2, k2⟩ := u_known hG inX1 (hG _ it_X1)
  obtain ⟨c3, i3, k3⟩ := u_known hG inX2 (hG _ it_X2)
  obtain ⟨y0, a0⟩ := arr_at (ty := .int) (hG _ ac_int) (fun C e => by cases e)
  obtain ⟨y1, a1⟩ := arr_at (ty := .boolean) (hG _ ac_boolean) (fun C e => by cases e)
  obtain ⟨y2, a2⟩ := arr_over (C := "java/lang/Object") (hts _ (tb2 (i := 125) (by decide +kernel)))
  have hstr : ∀ i : Nat, ∃ a : Nat, ∀ q, strL[i]? = some q → vk_R RX2 q.1 q.2 a s := fun i => by
    rcases h : strL[i]? with _ | q
    · exact ⟨0, fun q e => by cases e⟩
    · have hw := hts _ (str_in q (List.mem_of_getElem? h))
      obtain ⟨-, -, -, a, -, -, -, -, -, hev⟩ := Cond.stringRef_spec k3.2.1 hw
      exact ⟨a, fun q2 e => by cases e; exact vk_R.of hw hev⟩
  obtain ⟨t, ht1, ht2⟩ := va_Tof (N := 0) (tm := tmD) (ty := .object "java/lang/Object") (f := fun _ => .null) (A := fun q => s.heap.size ≤ q) (by decide) (fl _ (by decide +kernel)) (len_0 (fl _ (by decide +kernel))) (fun j hj => absurd hj (Nat.not_lt_zero _)) hA
  have hz := va_Zof (A := fun q => s.heap.size ≤ q) (hts _ (tb1 (i := 70) (by decide +kernel))) (hG _ in_Jx4a65c) ht1 hA
  refine ⟨(fun c => if c = 0 then c0 else if c = 1 then c1 else if c = 2 then c2 else c3, fun c => if c = 0 then i0 else if c = 1 then i1 else if c = 2 then i2 else i3),
    fun k => if k = 0 then y0 else if k = 1 then y1 else y2, fun i => if i = 100 then t else if i = 101 then b else Classical.choose (hstr i), rfl, ⟨?_, ?_⟩, ⟨?_, ?_⟩, ?_, ?_, ?_, ?_, ?_⟩
  · intro c q hq
    match c, hq with
    | 0, hq => cases hq; exact k0
    | 1, hq => cases hq; exact k1
    | 2, hq => cases hq; exact k2
    | 3, hq => cases hq; exact k3
    | c + 4, hq => cases hq
  · intro c q hq
    match c, hq with
    | 0, hq => cases hq; exact a0
    | 1, hq => cases hq; exact a1
    | 2, hq => cases hq; exact a2
    | c + 3, hq => cases hq
  · exact vx_Zqof (hts _ (tb1 (i := 131) (by decide +kernel))) (hts _ (tb1 (i := 6) (by decide +kernel))) (fl _ (by decide +kernel)) hA
  · exact vx_Zqof (hts _ (tb1 (i := 133) (by decide +kernel))) (hts _ (tb1 (i := 6) (by decide +kernel))) (fl _ (by decide +kernel)) hA
  · intro i q hq
    have hi : i ≠ 100 := fun e => by subst e; cases hq
    have hi2 : i ≠ 101 := fun e => by subst e; cases hq
    show vk_R RX2 q.1 q.2 (if i = 100 then t else if i = 101 then b else Classical.choose (hstr i)) s
    rw [if_neg hi, if_neg hi2]
    exact Classical.choose_spec (hstr i) q hq
  · exact fun q hq => va_Nw.of rfl (hts _ (nest_in q hq))
  · exact fun q hq => va_Nw.of rfl (hts _ (decl_in q hq))
  · exact fun q hq => va_Nw.of rfl (hts _ (cast_in q hq))
  · exact ⟨hz, ht2, va_AO.of (hts _ (tb2 (i := 125) (by decide +kernel))), ⟨L, xs, hL, hX, hA _ hbl⟩⟩
