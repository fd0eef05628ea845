/-! the law's own static methods: the answer in an array, the outcome as a number -/
theorem n10w {P : Prop} {k : Int} (h : k = 1) (e : k = 0) : P := by omega
theorem n20w {P : Prop} {k : Int} (h : k = 2) (e : k = 0) : P := by omega
theorem n30w {P : Prop} {k : Int} (h : k = 3) (e : k = 0) : P := by omega
theorem updL_0 {f : Nat → Int64} {v : Int64} : vp_updL f (0 : Int).toNat v 0 = v := if_pos rfl
set_option maxHeartbeats 4000000 in
set_option maxRecDepth 100000 in
theorem l_holiday (l : Launch) (D : va_G) (cy : Nat → ClassId) (sa : Nat → Addr) (hfl : l.stackTraces = false) (o : Nat) (f : Nat → Int64) (ad : Nat → Nat) (n : Nat) (M : Nat → Int → Int) (h : Int → Bool) (td : Int) (q : Nat → Nat → Int) (rq nd : Nat → Nat) (hci : CI h td n q rq nd M) (x : Int) (hx : inR x) : CtX l D cy sa yL_holiday cL_holiday 4 (some .int) [(0, 16, 19, 13)] 9 6 36 (wx cy sa o f ad n M) [.ref (ad 0), vi x, .ref o] (fun v ws2 => v = some (vi (kDay x)) ∧ ∃ f2 M2, ws2 = wx cy sa o f2 ad n M2 ∧ (kDay x = 0 → f2 0 = L64 (!h x) ∧ CI (flip h x) td n q rq nd M2) ∧ (kDay x ≠ 0 → CI h td n q rq nd M2)) no_x := by
  refine CtX.of (own := RL) (lc := [(0, .ref (ad 0)), (1, vi x), (2, .ref o)]) (by decide +kernel) hfl (Nat.le_of_ble_eq_true rfl) rfl rfl ?_
  intro p e s m args below meth c A C hex hnm
  generalize hQ : vx_MQ below (Qo D (fun v ws2 => v = some (vi (kDay x)) ∧ ∃ f2 M2, ws2 = wx cy sa o f2 ad n M2 ∧ (kDay x = 0 → f2 0 = L64 (!h x) ∧ CI (flip h x) td n q rq nd M2) ∧ (kDay x ≠ 0 → CI h td n q rq nd M2)) A) (Xo D no_x A) args s 6 36 A = Q
  replace hQ := hQ.symm
  refine V.aload_n C dL_holiday_0 2 rfl ?_
  refine V.iconst C dL_holiday_1 ?_
  refine V.aload_n C dL_holiday_2 0 rfl ?_
  refine V.iload_n C dL_holiday_3 1 rfl ?_
  refine V.callVc C (wr := [(o, .inl (cy 3, 1, .inr (.inl f)))]) (As := [vi x]) (st := [vi 0, .ref o]) kV_L_7 (c_holiday l D cy sa hfl ad n M h td q rq nd hci x hx) 0 cl_0 rfl rfl rfl (Nat.le_of_ble_eq_true rfl) ⟨by decide, by decide⟩ ⟨by decide, by decide⟩ dL_holiday_4 (fun E w1 hx => ?_) (fun v1 w1 r1 => ?_)
  · skip
    obtain ⟨hE, M2, hw2, hc2⟩ := hx
    rw [hw2]
    obtain ⟨rfl, hk⟩ := hE
    refine VX.catch C (name := xIO) hex [] ⟨0, 16, 19, 13⟩ [] rfl (fun _ h9 => nomatch h9) (by decide) (by decide) cl_L_13 (by decide) (fun q9 => ?_)
    show V D 4 A p l e (rmL 9 6 36) s m args below meth c Q 6 36 ([(o, .inl (cy 3, 1, .inr (.inl f)))] ++ cl cy (sa 100) ad n M2) 19 [(0, .ref (ad 0)), (1, vi x), (2, .ref o)] [.ref q9]
    refine V.astore_n C (lc2 := [(3, .ref q9), (0, .ref (ad 0)), (1, vi x), (2, .ref o)]) dL_holiday_19 (by decide) rfl ?_
    refine V.iconst C dL_holiday_20 ?_
    rw [hQ]
    exact V.iret C dL_holiday_21 (by decide) (by decide) (⟨ri hk.symm, _, M2, rfl, fun e9 => n10w hk e9, fun _ => hc2⟩)
  · skip
    obtain ⟨hk, rfl, M2, hw2, hc2⟩ := r1
    rw [hw2]
    show V D 4 A p l e (rmL 9 6 36) s m args below meth c Q 6 36 ([(o, .inl (cy 3, 1, .inr (.inl f)))] ++ cl cy (sa 100) ad n M2) 7 [(0, .ref (ad 0)), (1, vi x), (2, .ref o)] [vi (bI (!h x)), vi 0, .ref o]
    refine V.if_eqB C 14 dL_holiday_7 (by decide) (fun h7 => ?_) (fun h7 => ?_)
    · skip
      refine V.lconst C (v := 0) dL_holiday_14 rfl ?_
      show V D 4 A p l e (rmL 9 6 36) s m args below meth c Q 6 36 ([(o, .inl (cy 3, 1, .inr (.inl f)))] ++ cl cy (sa 100) ad n M2) 15 [(0, .ref (ad 0)), (1, vi x), (2, .ref o)] [.long 0, vi 0, .ref o]
      refine V.last C (ws2 := [(o, .inl (cy 3, 1, .inr (.inl (vp_updL f (0 : Int).toNat 0))))] ++ cl cy (sa 100) ad n M2) 0 rfl (by decide) (by decide) (by decide) dL_holiday_15 rfl ?_
      refine V.goto C 22 dL_holiday_16 (by decide) ?_
      refine V.iconst C dL_holiday_22 ?_
      rw [hQ]
      exact V.iret C dL_holiday_23 (by decide) (by decide) (⟨ri hk.symm, _, M2, rfl, fun _ => ⟨by rw [updL_0, L64, h7]; rfl, hc2⟩, fun e9 => absurd hk e9⟩)
    · skip
      refine V.lconst C (v := 1) dL_holiday_10 rfl ?_
      show V D 4 A p l e (rmL 9 6 36) s m args below meth c Q 6 36 ([(o, .inl (cy 3, 1, .inr (.inl f)))] ++ cl cy (sa 100) ad n M2) 11 [(0, .ref (ad 0)), (1, vi x), (2, .ref o)] [.long 1, vi 0, .ref o]
      refine V.goto C 15 dL_holiday_11 (by decide) ?_
      refine V.last C (ws2 := [(o, .inl (cy 3, 1, .inr (.inl (vp_updL f (0 : Int).toNat 1))))] ++ cl cy (sa 100) ad n M2) 0 rfl (by decide) (by decide) (by decide) dL_holiday_15 rfl ?_
      refine V.goto C 22 dL_holiday_16 (by decide) ?_
      refine V.iconst C dL_holiday_22 ?_
      rw [hQ]
      exact V.iret C dL_holiday_23 (by decide) (by decide) (⟨ri hk.symm, _, M2, rfl, fun _ => ⟨by rw [updL_0, L64, h7]; rfl, hc2⟩, fun e9 => absurd hk e9⟩)
set_option maxHeartbeats 4000000 in
set_option maxRecDepth 100000 in
theorem l_isWorking (l : Launch) (D : va_G) (cy : Nat → ClassId) (sa : Nat → Addr) (hfl : l.stackTraces = false) (o : Nat) (f : Nat → Int64) (ad : Nat → Nat) (n : Nat) (M : Nat → Int → Int) (h : Int → Bool) (td : Int) (q : Nat → Nat → Int) (rq nd : Nat → Nat) (hci : CI h td n q rq nd M) (x : Int) (hx : inR x) : CtX l D cy sa yL_isWorking cL_isWorking 4 (some .int) [(0, 16, 19, 13)] 9 6 36 (wx cy sa o f ad n M) [.ref (ad 0), vi x, .ref o] (fun v ws2 => v = some (vi (kDay x)) ∧ ∃ f2 M2, ws2 = wx cy sa o f2 ad n M2 ∧ (kDay x = 0 → f2 0 = L64 (wk h x) ∧ CI h td n q rq nd M2) ∧ (kDay x ≠ 0 → CI h td n q rq nd M2)) no_x := by
  refine CtX.of (own := RL) (lc := [(0, .ref (ad 0)), (1, vi x), (2, .ref o)]) (by decide +kernel) hfl (Nat.le_of_ble_eq_true rfl) rfl rfl ?_
  intro p e s m args below meth c A C hex hnm
  generalize hQ : vx_MQ below (Qo D (fun v ws2 => v = some (vi (kDay x)) ∧ ∃ f2 M2, ws2 = wx cy sa o f2 ad n M2 ∧ (kDay x = 0 → f2 0 = L64 (wk h x) ∧ CI h td n q rq nd M2) ∧ (kDay x ≠ 0 → CI h td n q rq nd M2)) A) (Xo D no_x A) args s 6 36 A = Q
  replace hQ := hQ.symm
  refine V.aload_n C dL_isWorking_0 2 rfl ?_
  refine V.iconst C dL_isWorking_1 ?_
  refine V.aload_n C dL_isWorking_2 0 rfl ?_
  refine V.iload_n C dL_isWorking_3 1 rfl ?_
  refine V.callVc C (wr := [(o, .inl (cy 3, 1, .inr (.inl f)))]) (As := [vi x]) (st := [vi 0, .ref o]) kV_L_15 (c_isWorking l D cy sa hfl ad n M h td q rq nd hci x hx) 0 cl_0 rfl rfl rfl (Nat.le_of_ble_eq_true rfl) ⟨by decide, by decide⟩ ⟨by decide, by decide⟩ dL_isWorking_4 (fun E w1 hx => ?_) (fun v1 w1 r1 => ?_)
  · skip
    obtain ⟨hE, M2, hw2, hc2⟩ := hx
    rw [hw2]
    obtain ⟨rfl, hk⟩ := hE
    refine VX.catch C (name := xIO) hex [] ⟨0, 16, 19, 13⟩ [] rfl (fun _ h9 => nomatch h9) (by decide) (by decide) cl_L_13 (by decide) (fun q9 => ?_)
    show V D 4 A p l e (rmL 9 6 36) s m args below meth c Q 6 36 ([(o, .inl (cy 3, 1, .inr (.inl f)))] ++ cl cy (sa 100) ad n M2) 19 [(0, .ref (ad 0)), (1, vi x), (2, .ref o)] [.ref q9]
    refine V.astore_n C (lc2 := [(3, .ref q9), (0, .ref (ad 0)), (1, vi x), (2, .ref o)]) dL_isWorking_19 (by decide) rfl ?_
    refine V.iconst C dL_isWorking_20 ?_
    rw [hQ]
    exact V.iret C dL_isWorking_21 (by decide) (by decide) (⟨ri hk.symm, _, M2, rfl, fun e9 => n10w hk e9, fun _ => hc2⟩)
  · skip
    obtain ⟨hk, rfl, M2, hw2, hc2⟩ := r1
    rw [hw2]
    show V D 4 A p l e (rmL 9 6 36) s m args below meth c Q 6 36 ([(o, .inl (cy 3, 1, .inr (.inl f)))] ++ cl cy (sa 100) ad n M2) 7 [(0, .ref (ad 0)), (1, vi x), (2, .ref o)] [vi (bI (wk h x)), vi 0, .ref o]
    refine V.if_eqB C 14 dL_isWorking_7 (by decide) (fun h7 => ?_) (fun h7 => ?_)
    · skip
      refine V.lconst C (v := 0) dL_isWorking_14 rfl ?_
      show V D 4 A p l e (rmL 9 6 36) s m args below meth c Q 6 36 ([(o, .inl (cy 3, 1, .inr (.inl f)))] ++ cl cy (sa 100) ad n M2) 15 [(0, .ref (ad 0)), (1, vi x), (2, .ref o)] [.long 0, vi 0, .ref o]
      refine V.last C (ws2 := [(o, .inl (cy 3, 1, .inr (.inl (vp_updL f (0 : Int).toNat 0))))] ++ cl cy (sa 100) ad n M2) 0 rfl (by decide) (by decide) (by decide) dL_isWorking_15 rfl ?_
      refine V.goto C 22 dL_isWorking_16 (by decide) ?_
      refine V.iconst C dL_isWorking_22 ?_
      rw [hQ]
      exact V.iret C dL_isWorking_23 (by decide) (by decide) (⟨ri hk.symm, _, M2, rfl, fun _ => ⟨by rw [updL_0, L64, h7]; rfl, hc2⟩, fun e9 => absurd hk e9⟩)
    · skip
      refine V.lconst C (v := 1) dL_isWorking_10 rfl ?_
      show V D 4 A p l e (rmL 9 6 36) s m args below meth c Q 6 36 ([(o, .inl (cy 3, 1, .inr (.inl f)))] ++ cl cy (sa 100) ad n M2) 11 [(0, .ref (ad 0)), (1, vi x), (2, .ref o)] [.long 1, vi 0, .ref o]
      refine V.goto C 15 dL_isWorking_11 (by decide) ?_
      refine V.last C (ws2 := [(o, .inl (cy 3, 1, .inr (.inl (vp_updL f (0 : Int).toNat 1))))] ++ cl cy (sa 100) ad n M2) 0 rfl (by decide) (by decide) (by decide) dL_isWorking_15 rfl ?_
      refine V.goto C 22 dL_isWorking_16 (by decide) ?_
      refine V.iconst C dL_isWorking_22 ?_
      rw [hQ]
      exact V.iret C dL_isWorking_23 (by decide) (by decide) (⟨ri hk.symm, _, M2, rfl, fun _ => ⟨by rw [updL_0, L64, h7]; rfl, hc2⟩, fun e9 => absurd hk e9⟩)
set_option maxHeartbeats 4000000 in
set_option maxRecDepth 100000 in
theorem l_workingDays (l : Launch) (D : va_G) (cy : Nat → ClassId) (sa : Nat → Addr) (hfl : l.stackTraces = false) (o : Nat) (f : Nat → Int64) (ad : Nat → Nat) (n : Nat) (M : Nat → Int → Int) (h : Int → Bool) (td : Int) (q : Nat → Nat → Int) (rq nd : Nat → Nat) (hci : CI h td n q rq nd M) (x : Int) (hx : inR x) (z : Int) (hz : inR z) : CtX l D cy sa yL_workingDays cL_workingDays 5 (some .int) [(0, 10, 13, 13), (0, 10, 17, 22)] 9 6 36 (wx cy sa o f ad n M) [.ref (ad 0), vi x, vi z, .ref o] (fun v ws2 => v = some (vi (kSpan x z)) ∧ ∃ f2 M2, ws2 = wx cy sa o f2 ad n M2 ∧ (kSpan x z = 0 → f2 0 = R64 (ct (wk h) x (z + 1)) ∧ CI h td n q rq nd M2) ∧ (kSpan x z ≠ 0 → CI h td n q rq nd M2)) no_x := by
  refine CtX.of (own := RL) (lc := [(0, .ref (ad 0)), (1, vi x), (2, vi z), (3, .ref o)]) (by decide +kernel) hfl (Nat.le_of_ble_eq_true rfl) rfl rfl ?_
  intro p e s m args below meth c A C hex hnm
  generalize hQ : vx_MQ below (Qo D (fun v ws2 => v = some (vi (kSpan x z)) ∧ ∃ f2 M2, ws2 = wx cy sa o f2 ad n M2 ∧ (kSpan x z = 0 → f2 0 = R64 (ct (wk h) x (z + 1)) ∧ CI h td n q rq nd M2) ∧ (kSpan x z ≠ 0 → CI h td n q rq nd M2)) A) (Xo D no_x A) args s 6 36 A = Q
  replace hQ := hQ.symm
  refine V.aload_n C dL_workingDays_0 3 rfl ?_
  refine V.iconst C dL_workingDays_1 ?_
  refine V.aload_n C dL_workingDays_2 0 rfl ?_
  refine V.iload_n C dL_workingDays_3 1 rfl ?_
  refine V.iload_n C dL_workingDays_4 2 rfl ?_
  refine V.callVc C (wr := [(o, .inl (cy 3, 1, .inr (.inl f)))]) (As := [vi x, vi z]) (st := [vi 0, .ref o]) kV_L_18 (c_workingDays l D cy sa hfl ad n M h td q rq nd hci x hx z hz) 0 cl_0 rfl rfl rfl (Nat.le_of_ble_eq_true rfl) ⟨by decide, by decide⟩ ⟨by decide, by decide⟩ dL_workingDays_5 (fun E w1 hx => ?_) (fun v1 w1 r1 => ?_)
  · skip
    obtain ⟨hE, M2, hw2, hc2⟩ := hx
    rw [hw2]
    rcases hE with ⟨rfl, hk⟩ | ⟨rfl, hk⟩
    · skip
      refine VX.catch C (name := xIO) hex [] ⟨0, 10, 13, 13⟩ [⟨0, 10, 17, 22⟩] rfl (fun _ h9 => nomatch h9) (by decide) (by decide) cl_L_13 (by decide) (fun q9 => ?_)
      show V D 5 A p l e (rmL 9 6 36) s m args below meth c Q 6 36 ([(o, .inl (cy 3, 1, .inr (.inl f)))] ++ cl cy (sa 100) ad n M2) 13 [(0, .ref (ad 0)), (1, vi x), (2, vi z), (3, .ref o)] [.ref q9]
      refine V.astore C (lc2 := [(4, .ref q9), (0, .ref (ad 0)), (1, vi x), (2, vi z), (3, .ref o)]) dL_workingDays_13 (by decide) rfl ?_
      refine V.iconst C dL_workingDays_15 ?_
      rw [hQ]
      exact V.iret C dL_workingDays_16 (by decide) (by decide) (⟨ri hk.symm, _, M2, rfl, fun e9 => n10w hk e9, fun _ => hc2⟩)
    · skip
      refine VX.catch C (name := xIA) hex [⟨0, 10, 13, 13⟩] ⟨0, 10, 17, 22⟩ [] rfl (List.forall_mem_singleton.mpr ⟨xIO, by decide, cl_L_13, by decide⟩) (by decide) (by decide) cl_L_22 (by decide) (fun q9 => ?_)
      show V D 5 A p l e (rmL 9 6 36) s m args below meth c Q 6 36 ([(o, .inl (cy 3, 1, .inr (.inl f)))] ++ cl cy (sa 100) ad n M2) 17 [(0, .ref (ad 0)), (1, vi x), (2, vi z), (3, .ref o)] [.ref q9]
      refine V.astore C (lc2 := [(4, .ref q9), (0, .ref (ad 0)), (1, vi x), (2, vi z), (3, .ref o)]) dL_workingDays_17 (by decide) rfl ?_
      refine V.iconst C dL_workingDays_19 ?_
      rw [hQ]
      exact V.iret C dL_workingDays_20 (by decide) (by decide) (⟨ri hk.symm, _, M2, rfl, fun e9 => n20w hk e9, fun _ => hc2⟩)
  · skip
    obtain ⟨hk, rfl, M2, hw2, hc2⟩ := r1
    rw [hw2]
    show V D 5 A p l e (rmL 9 6 36) s m args below meth c Q 6 36 ([(o, .inl (cy 3, 1, .inr (.inl f)))] ++ cl cy (sa 100) ad n M2) 8 [(0, .ref (ad 0)), (1, vi x), (2, vi z), (3, .ref o)] [vi (ct (wk h) x (z + 1)), vi 0, .ref o]
    refine V.i2l C dL_workingDays_8 ?_
    refine V.last C (ws2 := [(o, .inl (cy 3, 1, .inr (.inl (vp_updL f (0 : Int).toNat ((zI (ct (wk h) x (z + 1))).toInt64)))))] ++ cl cy (sa 100) ad n M2) 0 rfl (by decide) (by decide) (by decide) dL_workingDays_9 rfl ?_
    refine V.goto C 21 dL_workingDays_10 (by decide) ?_
    refine V.iconst C dL_workingDays_21 ?_
    rw [hQ]
    exact V.iret C dL_workingDays_22 (by decide) (by decide) (⟨ri hk.symm, _, M2, rfl, fun _ => ⟨updL_0, hc2⟩, fun e9 => absurd hk e9⟩)
set_option maxHeartbeats 4000000 in
set_option maxRecDepth 100000 in
theorem l_pass (l : Launch) (D : va_G) (cy : Nat → ClassId) (sa : Nat → Addr) (hfl : l.stackTraces = false) (o : Nat) (f : Nat → Int64) (ad : Nat → Nat) (n : Nat) (M : Nat → Int → Int) (h : Int → Bool) (td : Int) (q : Nat → Nat → Int) (rq nd : Nat → Nat) (hci : CI h td n q rq nd M) (x : Int) (hx : inR x) : CtX l D cy sa yL_pass cL_pass 4 (some .int) [(0, 9, 12, 22), (0, 9, 15, 28)] 9 6 36 (wx cy sa o f ad n M) [.ref (ad 0), vi x, .ref o] (fun v ws2 => v = some (vi (kPass td x)) ∧ ∃ f2 M2, ws2 = wx cy sa o f2 ad n M2 ∧ (kPass td x = 0 → f2 0 = R64 (td + x) ∧ CI h (td + x) n q rq nd M2) ∧ (kPass td x ≠ 0 → CI h td n q rq nd M2)) no_x := by
  refine CtX.of (own := RL) (lc := [(0, .ref (ad 0)), (1, vi x), (2, .ref o)]) (by decide +kernel) hfl (Nat.le_of_ble_eq_true rfl) rfl rfl ?_
  intro p e s m args below meth c A C hex hnm
  generalize hQ : vx_MQ below (Qo D (fun v ws2 => v = some (vi (kPass td x)) ∧ ∃ f2 M2, ws2 = wx cy sa o f2 ad n M2 ∧ (kPass td x = 0 → f2 0 = R64 (td + x) ∧ CI h (td + x) n q rq nd M2) ∧ (kPass td x ≠ 0 → CI h td n q rq nd M2)) A) (Xo D no_x A) args s 6 36 A = Q
  replace hQ := hQ.symm
  refine V.aload_n C dL_pass_0 2 rfl ?_
  refine V.iconst C dL_pass_1 ?_
  refine V.aload_n C dL_pass_2 0 rfl ?_
  refine V.iload_n C dL_pass_3 1 rfl ?_
  refine V.callVc C (wr := [(o, .inl (cy 3, 1, .inr (.inl f)))]) (As := [vi x]) (st := [vi 0, .ref o]) kV_L_24 (c_pass l D cy sa hfl ad n M h td q rq nd hci x hx) 0 cl_0 rfl rfl rfl (Nat.le_of_ble_eq_true rfl) ⟨by decide, by decide⟩ ⟨by decide, by decide⟩ dL_pass_4 (fun E w1 hx => ?_) (fun v1 w1 r1 => ?_)
  · skip
    obtain ⟨hE, M2, hw2, hc2⟩ := hx
    rw [hw2]
    rcases hE with ⟨rfl, hk⟩ | ⟨rfl, hk⟩
    · skip
      refine VX.catch C (name := xIA) hex [] ⟨0, 9, 12, 22⟩ [⟨0, 9, 15, 28⟩] rfl (fun _ h9 => nomatch h9) (by decide) (by decide) cl_L_22 (by decide) (fun q9 => ?_)
      show V D 4 A p l e (rmL 9 6 36) s m args below meth c Q 6 36 ([(o, .inl (cy 3, 1, .inr (.inl f)))] ++ cl cy (sa 100) ad n M2) 12 [(0, .ref (ad 0)), (1, vi x), (2, .ref o)] [.ref q9]
      refine V.astore_n C (lc2 := [(3, .ref q9), (0, .ref (ad 0)), (1, vi x), (2, .ref o)]) dL_pass_12 (by decide) rfl ?_
      refine V.iconst C dL_pass_13 ?_
      rw [hQ]
      exact V.iret C dL_pass_14 (by decide) (by decide) (⟨ri hk.symm, _, M2, rfl, fun e9 => n10w hk e9, fun _ => hc2⟩)
    · skip
      refine VX.catch C (name := xIS) hex [⟨0, 9, 12, 22⟩] ⟨0, 9, 15, 28⟩ [] rfl (List.forall_mem_singleton.mpr ⟨xIA, by decide, cl_L_22, by decide⟩) (by decide) (by decide) cl_L_28 (by decide) (fun q9 => ?_)
      show V D 4 A p l e (rmL 9 6 36) s m args below meth c Q 6 36 ([(o, .inl (cy 3, 1, .inr (.inl f)))] ++ cl cy (sa 100) ad n M2) 15 [(0, .ref (ad 0)), (1, vi x), (2, .ref o)] [.ref q9]
      refine V.astore_n C (lc2 := [(3, .ref q9), (0, .ref (ad 0)), (1, vi x), (2, .ref o)]) dL_pass_15 (by decide) rfl ?_
      refine V.iconst C dL_pass_16 ?_
      rw [hQ]
      exact V.iret C dL_pass_17 (by decide) (by decide) (⟨ri hk.symm, _, M2, rfl, fun e9 => n20w hk e9, fun _ => hc2⟩)
  · skip
    obtain ⟨hk, rfl, M2, hw2, hc2⟩ := r1
    rw [hw2]
    show V D 4 A p l e (rmL 9 6 36) s m args below meth c Q 6 36 ([(o, .inl (cy 3, 1, .inr (.inl f)))] ++ cl cy (sa 100) ad n M2) 7 [(0, .ref (ad 0)), (1, vi x), (2, .ref o)] [vi (td + x), vi 0, .ref o]
    refine V.i2l C dL_pass_7 ?_
    refine V.last C (ws2 := [(o, .inl (cy 3, 1, .inr (.inl (vp_updL f (0 : Int).toNat ((zI (td + x)).toInt64)))))] ++ cl cy (sa 100) ad n M2) 0 rfl (by decide) (by decide) (by decide) dL_pass_8 rfl ?_
    refine V.goto C 18 dL_pass_9 (by decide) ?_
    refine V.iconst C dL_pass_18 ?_
    rw [hQ]
    exact V.iret C dL_pass_19 (by decide) (by decide) (⟨ri hk.symm, _, M2, rfl, fun _ => ⟨updL_0, hc2⟩, fun e9 => absurd hk e9⟩)
set_option maxHeartbeats 4000000 in
set_option maxRecDepth 100000 in
theorem l_addRule (l : Launch) (D : va_G) (cy : Nat → ClassId) (sa : Nat → Addr) (hfl : l.stackTraces = false) (o : Nat) (f : Nat → Int64) (ad : Nat → Nat) (n : Nat) (M : Nat → Int → Int) (h : Int → Bool) (td : Int) (q : Nat → Nat → Int) (rq nd : Nat → Nat) (hci : CI h td n q rq nd M) (kd : Int) (hkd : inR kd) (nn : Int) (hnn : inR nn) (sh : Int) (hsh : inR sh) (fs : Int) (hfs : inR fs) (ef : Int) (hef : inR ef) (va : Int) (hva : inR va) : CtX l D cy sa yL_addRule cL_addRule 9 (some .int) [(0, 18, 21, 13), (0, 18, 25, 22), (0, 18, 29, 28)] 9 16 900 (wx cy sa o f ad n M) [.ref (ad 0), vi kd, vi nn, vi sh, vi fs, vi ef, vi va, .ref o] (fun v ws2 => v = some (vi (kAdd n kd nn sh fs ef va)) ∧ ∃ f2 ad2 n2 M2, ws2 = wx cy sa o f2 ad2 n2 M2 ∧ ad2 0 = ad 0 ∧ (kAdd n kd nn sh fs ef va = 0 → f2 0 = R64 ((n : Int)) ∧ n2 = n + 1 ∧ CI h td n2 (qA q n (pN kd nn fs ef va sh)) (mA rq n) (mA nd n) M2) ∧ (kAdd n kd nn sh fs ef va ≠ 0 → n2 = n ∧ CI h td n2 q rq nd M2)) no_x := by
  refine CtX.of (own := RL) (lc := [(0, .ref (ad 0)), (1, vi kd), (2, vi nn), (3, vi sh), (4, vi fs), (5, vi ef), (6, vi va), (7, .ref o)]) (by decide +kernel) hfl (Nat.le_of_ble_eq_true rfl) rfl rfl ?_
  intro p e s m args below meth c A C hex hnm
  generalize hQ : vx_MQ below (Qo D (fun v ws2 => v = some (vi (kAdd n kd nn sh fs ef va)) ∧ ∃ f2 ad2 n2 M2, ws2 = wx cy sa o f2 ad2 n2 M2 ∧ ad2 0 = ad 0 ∧ (kAdd n kd nn sh fs ef va = 0 → f2 0 = R64 ((n : Int)) ∧ n2 = n + 1 ∧ CI h td n2 (qA q n (pN kd nn fs ef va sh)) (mA rq n) (mA nd n) M2) ∧ (kAdd n kd nn sh fs ef va ≠ 0 → n2 = n ∧ CI h td n2 q rq nd M2)) A) (Xo D no_x A) args s 16 900 A = Q
  replace hQ := hQ.symm
  refine V.aload C dL_addRule_0 7 rfl ?_
  refine V.iconst C dL_addRule_2 ?_
  refine V.aload_n C dL_addRule_3 0 rfl ?_
  refine V.iload_n C dL_addRule_4 1 rfl ?_
  refine V.iload_n C dL_addRule_5 2 rfl ?_
  refine V.iload_n C dL_addRule_6 3 rfl ?_
  refine V.iload C dL_addRule_7 4 rfl ?_
  refine V.iload C dL_addRule_9 5 rfl ?_
  refine V.iload C dL_addRule_11 6 rfl ?_
  refine V.callVc C (wr := [(o, .inl (cy 3, 1, .inr (.inl f)))]) (As := [vi kd, vi nn, vi sh, vi fs, vi ef, vi va]) (st := [vi 0, .ref o]) kV_L_30 (c_addRule l D cy sa hfl ad n M h td q rq nd hci kd hkd nn hnn sh hsh fs hfs ef hef va hva) 0 cl_0 rfl rfl rfl (Nat.le_of_ble_eq_true rfl) ⟨by decide, by decide⟩ ⟨by decide, by decide⟩ dL_addRule_13 (fun E w1 hx => ?_) (fun v1 w1 r1 => ?_)
  · skip
    obtain ⟨hE, M2, hw2, hc2⟩ := hx
    rw [hw2]
    rcases hE with ⟨rfl, hk⟩ | ⟨rfl, hk⟩ | ⟨rfl, hk⟩
    · skip
      refine VX.catch C (name := xIO) hex [] ⟨0, 18, 21, 13⟩ [⟨0, 18, 25, 22⟩, ⟨0, 18, 29, 28⟩] rfl (fun _ h9 => nomatch h9) (by decide) (by decide) cl_L_13 (by decide) (fun q9 => ?_)
      show V D 9 A p l e (rmL 9 16 900) s m args below meth c Q 16 900 ([(o, .inl (cy 3, 1, .inr (.inl f)))] ++ cl cy (sa 100) ad n M2) 21 [(0, .ref (ad 0)), (1, vi kd), (2, vi nn), (3, vi sh), (4, vi fs), (5, vi ef), (6, vi va), (7, .ref o)] [.ref q9]
      refine V.astore C (lc2 := [(8, .ref q9), (0, .ref (ad 0)), (1, vi kd), (2, vi nn), (3, vi sh), (4, vi fs), (5, vi ef), (6, vi va), (7, .ref o)]) dL_addRule_21 (by decide) rfl ?_
      refine V.iconst C dL_addRule_23 ?_
      rw [hQ]
      exact V.iret C dL_addRule_24 (by decide) (by decide) (⟨ri hk.symm, _, ad, n, M2, rfl, rfl, fun e9 => n10w hk e9, fun _ => ⟨rfl, hc2⟩⟩)
    · skip
      refine VX.catch C (name := xIA) hex [⟨0, 18, 21, 13⟩] ⟨0, 18, 25, 22⟩ [⟨0, 18, 29, 28⟩] rfl (List.forall_mem_singleton.mpr ⟨xIO, by decide, cl_L_13, by decide⟩) (by decide) (by decide) cl_L_22 (by decide) (fun q9 => ?_)
      show V D 9 A p l e (rmL 9 16 900) s m args below meth c Q 16 900 ([(o, .inl (cy 3, 1, .inr (.inl f)))] ++ cl cy (sa 100) ad n M2) 25 [(0, .ref (ad 0)), (1, vi kd), (2, vi nn), (3, vi sh), (4, vi fs), (5, vi ef), (6, vi va), (7, .ref o)] [.ref q9]
      refine V.astore C (lc2 := [(8, .ref q9), (0, .ref (ad 0)), (1, vi kd), (2, vi nn), (3, vi sh), (4, vi fs), (5, vi ef), (6, vi va), (7, .ref o)]) dL_addRule_25 (by decide) rfl ?_
      refine V.iconst C dL_addRule_27 ?_
      rw [hQ]
      exact V.iret C dL_addRule_28 (by decide) (by decide) (⟨ri hk.symm, _, ad, n, M2, rfl, rfl, fun e9 => n20w hk e9, fun _ => ⟨rfl, hc2⟩⟩)
    · skip
      refine VX.catch C (name := xIS) hex [⟨0, 18, 21, 13⟩, ⟨0, 18, 25, 22⟩] ⟨0, 18, 29, 28⟩ [] rfl (List.forall_mem_cons.mpr ⟨⟨xIO, by decide, cl_L_13, by decide⟩, List.forall_mem_singleton.mpr ⟨xIA, by decide, cl_L_22, by decide⟩⟩) (by decide) (by decide) cl_L_28 (by decide) (fun q9 => ?_)
      show V D 9 A p l e (rmL 9 16 900) s m args below meth c Q 16 900 ([(o, .inl (cy 3, 1, .inr (.inl f)))] ++ cl cy (sa 100) ad n M2) 29 [(0, .ref (ad 0)), (1, vi kd), (2, vi nn), (3, vi sh), (4, vi fs), (5, vi ef), (6, vi va), (7, .ref o)] [.ref q9]
      refine V.astore C (lc2 := [(8, .ref q9), (0, .ref (ad 0)), (1, vi kd), (2, vi nn), (3, vi sh), (4, vi fs), (5, vi ef), (6, vi va), (7, .ref o)]) dL_addRule_29 (by decide) rfl ?_
      refine V.iconst C dL_addRule_31 ?_
      rw [hQ]
      exact V.iret C dL_addRule_32 (by decide) (by decide) (⟨ri hk.symm, _, ad, n, M2, rfl, rfl, fun e9 => n30w hk e9, fun _ => ⟨rfl, hc2⟩⟩)
  · skip
    obtain ⟨hk, rfl, ad2, M2, hw2, ha2, hc2⟩ := r1
    rw [hw2, ← ha2]
    show V D 9 A p l e (rmL 9 16 900) s m args below meth c Q 16 900 ([(o, .inl (cy 3, 1, .inr (.inl f)))] ++ cl cy (sa 100) ad2 (n + 1) M2) 16 [(0, .ref (ad2 0)), (1, vi kd), (2, vi nn), (3, vi sh), (4, vi fs), (5, vi ef), (6, vi va), (7, .ref o)] [vi (n : Int), vi 0, .ref o]
    refine V.i2l C dL_addRule_16 ?_
    refine V.last C (ws2 := [(o, .inl (cy 3, 1, .inr (.inl (vp_updL f (0 : Int).toNat ((zI (n : Int)).toInt64)))))] ++ cl cy (sa 100) ad2 (n + 1) M2) 0 rfl (by decide) (by decide) (by decide) dL_addRule_17 rfl ?_
    refine V.goto C 33 dL_addRule_18 (by decide) ?_
    refine V.iconst C dL_addRule_33 ?_
    rw [hQ]
    exact V.iret C dL_addRule_34 (by decide) (by decide) (⟨ri hk.symm, _, ad2, n + 1, M2, rfl, ha2, fun _ => ⟨updL_0, rfl, hc2⟩, fun e9 => absurd hk e9⟩)
set_option maxHeartbeats 4000000 in
set_option maxRecDepth 100000 in
theorem l_setShift (l : Launch) (D : va_G) (cy : Nat → ClassId) (sa : Nat → Addr) (hfl : l.stackTraces = false) (o : Nat) (f : Nat → Int64) (ad : Nat → Nat) (n : Nat) (M : Nat → Int → Int) (h : Int → Bool) (td : Int) (q : Nat → Nat → Int) (rq nd : Nat → Nat) (hci : CI h td n q rq nd M) (x : Int) (hx : inR x) (z : Int) (hz : inR z) : CtX l D cy sa yL_setShift cL_setShift 5 (some .int) [(0, 10, 13, 13), (0, 10, 17, 22)] 9 6 36 (wx cy sa o f ad n M) [.ref (ad 0), vi x, vi z, .ref o] (fun v ws2 => v = some (vi (kShift n x z)) ∧ ∃ f2 M2, ws2 = wx cy sa o f2 ad n M2 ∧ (kShift n x z = 0 → f2 0 = R64 (q x.toNat 5) ∧ CI h td n (qsh q x.toNat z) rq nd M2) ∧ (kShift n x z ≠ 0 → CI h td n q rq nd M2)) no_x := by
  refine CtX.of (own := RL) (lc := [(0, .ref (ad 0)), (1, vi x), (2, vi z), (3, .ref o)]) (by decide +kernel) hfl (Nat.le_of_ble_eq_true rfl) rfl rfl ?_
  intro p e s m args below meth c A C hex hnm
  generalize hQ : vx_MQ below (Qo D (fun v ws2 => v = some (vi (kShift n x z)) ∧ ∃ f2 M2, ws2 = wx cy sa o f2 ad n M2 ∧ (kShift n x z = 0 → f2 0 = R64 (q x.toNat 5) ∧ CI h td n (qsh q x.toNat z) rq nd M2) ∧ (kShift n x z ≠ 0 → CI h td n q rq nd M2)) A) (Xo D no_x A) args s 6 36 A = Q
  replace hQ := hQ.symm
  refine V.aload_n C dL_setShift_0 3 rfl ?_
  refine V.iconst C dL_setShift_1 ?_
  refine V.aload_n C dL_setShift_2 0 rfl ?_
  refine V.iload_n C dL_setShift_3 1 rfl ?_
  refine V.iload_n C dL_setShift_4 2 rfl ?_
  refine V.callVc C (wr := [(o, .inl (cy 3, 1, .inr (.inl f)))]) (As := [vi x, vi z]) (st := [vi 0, .ref o]) kV_L_34 (c_setShift l D cy sa hfl ad n M h td q rq nd hci x hx z hz) 0 cl_0 rfl rfl rfl (Nat.le_of_ble_eq_true rfl) ⟨by decide, by decide⟩ ⟨by decide, by decide⟩ dL_setShift_5 (fun E w1 hx => ?_) (fun v1 w1 r1 => ?_)
  · skip
    obtain ⟨hE, M2, hw2, hc2⟩ := hx
    rw [hw2]
    rcases hE with ⟨rfl, hk⟩ | ⟨rfl, hk⟩
    · skip
      refine VX.catch C (name := xIO) hex [] ⟨0, 10, 13, 13⟩ [⟨0, 10, 17, 22⟩] rfl (fun _ h9 => nomatch h9) (by decide) (by decide) cl_L_13 (by decide) (fun q9 => ?_)
      show V D 5 A p l e (rmL 9 6 36) s m args below meth c Q 6 36 ([(o, .inl (cy 3, 1, .inr (.inl f)))] ++ cl cy (sa 100) ad n M2) 13 [(0, .ref (ad 0)), (1, vi x), (2, vi z), (3, .ref o)] [.ref q9]
      refine V.astore C (lc2 := [(4, .ref q9), (0, .ref (ad 0)), (1, vi x), (2, vi z), (3, .ref o)]) dL_setShift_13 (by decide) rfl ?_
      refine V.iconst C dL_setShift_15 ?_
      rw [hQ]
      exact V.iret C dL_setShift_16 (by decide) (by decide) (⟨ri hk.symm, _, M2, rfl, fun e9 => n10w hk e9, fun _ => hc2⟩)
    · skip
      refine VX.catch C (name := xIA) hex [⟨0, 10, 13, 13⟩] ⟨0, 10, 17, 22⟩ [] rfl (List.forall_mem_singleton.mpr ⟨xIO, by decide, cl_L_13, by decide⟩) (by decide) (by decide) cl_L_22 (by decide) (fun q9 => ?_)
      show V D 5 A p l e (rmL 9 6 36) s m args below meth c Q 6 36 ([(o, .inl (cy 3, 1, .inr (.inl f)))] ++ cl cy (sa 100) ad n M2) 17 [(0, .ref (ad 0)), (1, vi x), (2, vi z), (3, .ref o)] [.ref q9]
      refine V.astore C (lc2 := [(4, .ref q9), (0, .ref (ad 0)), (1, vi x), (2, vi z), (3, .ref o)]) dL_setShift_17 (by decide) rfl ?_
      refine V.iconst C dL_setShift_19 ?_
      rw [hQ]
      exact V.iret C dL_setShift_20 (by decide) (by decide) (⟨ri hk.symm, _, M2, rfl, fun e9 => n20w hk e9, fun _ => hc2⟩)
  · skip
    obtain ⟨hk, rfl, M2, hw2, hc2⟩ := r1
    rw [hw2]
    show V D 5 A p l e (rmL 9 6 36) s m args below meth c Q 6 36 ([(o, .inl (cy 3, 1, .inr (.inl f)))] ++ cl cy (sa 100) ad n M2) 8 [(0, .ref (ad 0)), (1, vi x), (2, vi z), (3, .ref o)] [vi (q x.toNat 5), vi 0, .ref o]
    refine V.i2l C dL_setShift_8 ?_
    refine V.last C (ws2 := [(o, .inl (cy 3, 1, .inr (.inl (vp_updL f (0 : Int).toNat ((zI (q x.toNat 5)).toInt64)))))] ++ cl cy (sa 100) ad n M2) 0 rfl (by decide) (by decide) (by decide) dL_setShift_9 rfl ?_
    refine V.goto C 21 dL_setShift_10 (by decide) ?_
    refine V.iconst C dL_setShift_21 ?_
    rw [hQ]
    exact V.iret C dL_setShift_22 (by decide) (by decide) (⟨ri hk.symm, _, M2, rfl, fun _ => ⟨updL_0, hc2⟩, fun e9 => absurd hk e9⟩)
set_option maxHeartbeats 4000000 in
set_option maxRecDepth 100000 in
theorem l_require (l : Launch) (D : va_G) (cy : Nat → ClassId) (sa : Nat → Addr) (hfl : l.stackTraces = false) (o : Nat) (f : Nat → Int64) (ad : Nat → Nat) (n : Nat) (M : Nat → Int → Int) (h : Int → Bool) (td : Int) (q : Nat → Nat → Int) (rq nd : Nat → Nat) (hci : CI h td n q rq nd M) (x : Int) (hx : inR x) (z : Int) (hz : inR z) : CtX l D cy sa yL_require cL_require 5 (some .int) [(0, 17, 20, 13), (0, 17, 24, 28)] 9 6 36 (wx cy sa o f ad n M) [.ref (ad 0), vi x, vi z, .ref o] (fun v ws2 => v = some (vi (kReq n nd x z)) ∧ ∃ f2 M2, ws2 = wx cy sa o f2 ad n M2 ∧ (kReq n nd x z = 0 → f2 0 = L64 (!(rq x.toNat).testBit z.toNat) ∧ CI h td n q (rqN rq x.toNat z.toNat) (ndN rq nd x.toNat z.toNat) M2) ∧ (kReq n nd x z ≠ 0 → CI h td n q rq nd M2)) no_x := by
  refine CtX.of (own := RL) (lc := [(0, .ref (ad 0)), (1, vi x), (2, vi z), (3, .ref o)]) (by decide +kernel) hfl (Nat.le_of_ble_eq_true rfl) rfl rfl ?_
  intro p e s m args below meth c A C hex hnm
  generalize hQ : vx_MQ below (Qo D (fun v ws2 => v = some (vi (kReq n nd x z)) ∧ ∃ f2 M2, ws2 = wx cy sa o f2 ad n M2 ∧ (kReq n nd x z = 0 → f2 0 = L64 (!(rq x.toNat).testBit z.toNat) ∧ CI h td n q (rqN rq x.toNat z.toNat) (ndN rq nd x.toNat z.toNat) M2) ∧ (kReq n nd x z ≠ 0 → CI h td n q rq nd M2)) A) (Xo D no_x A) args s 6 36 A = Q
  replace hQ := hQ.symm
  refine V.aload_n C dL_require_0 3 rfl ?_
  refine V.iconst C dL_require_1 ?_
  refine V.aload_n C dL_require_2 0 rfl ?_
  refine V.iload_n C dL_require_3 1 rfl ?_
  refine V.iload_n C dL_require_4 2 rfl ?_
  refine V.callVc C (wr := [(o, .inl (cy 3, 1, .inr (.inl f)))]) (As := [vi x, vi z]) (st := [vi 0, .ref o]) kV_L_37 (c_require l D cy sa hfl ad n M h td q rq nd hci x hx z hz) 0 cl_0 rfl rfl rfl (Nat.le_of_ble_eq_true rfl) ⟨by decide, by decide⟩ ⟨by decide, by decide⟩ dL_require_5 (fun E w1 hx => ?_) (fun v1 w1 r1 => ?_)
  · skip
    obtain ⟨hE, M2, hw2, hc2⟩ := hx
    rw [hw2]
    rcases hE with ⟨rfl, hk⟩ | ⟨rfl, hk⟩
    · skip
      refine VX.catch C (name := xIO) hex [] ⟨0, 17, 20, 13⟩ [⟨0, 17, 24, 28⟩] rfl (fun _ h9 => nomatch h9) (by decide) (by decide) cl_L_13 (by decide) (fun q9 => ?_)
      show V D 5 A p l e (rmL 9 6 36) s m args below meth c Q 6 36 ([(o, .inl (cy 3, 1, .inr (.inl f)))] ++ cl cy (sa 100) ad n M2) 20 [(0, .ref (ad 0)), (1, vi x), (2, vi z), (3, .ref o)] [.ref q9]
      refine V.astore C (lc2 := [(4, .ref q9), (0, .ref (ad 0)), (1, vi x), (2, vi z), (3, .ref o)]) dL_require_20 (by decide) rfl ?_
      refine V.iconst C dL_require_22 ?_
      rw [hQ]
      exact V.iret C dL_require_23 (by decide) (by decide) (⟨ri hk.symm, _, M2, rfl, fun e9 => n10w hk e9, fun _ => hc2⟩)
    · skip
      refine VX.catch C (name := xIS) hex [⟨0, 17, 20, 13⟩] ⟨0, 17, 24, 28⟩ [] rfl (List.forall_mem_singleton.mpr ⟨xIO, by decide, cl_L_13, by decide⟩) (by decide) (by decide) cl_L_28 (by decide) (fun q9 => ?_)
      show V D 5 A p l e (rmL 9 6 36) s m args below meth c Q 6 36 ([(o, .inl (cy 3, 1, .inr (.inl f)))] ++ cl cy (sa 100) ad n M2) 24 [(0, .ref (ad 0)), (1, vi x), (2, vi z), (3, .ref o)] [.ref q9]
      refine V.astore C (lc2 := [(4, .ref q9), (0, .ref (ad 0)), (1, vi x), (2, vi z), (3, .ref o)]) dL_require_24 (by decide) rfl ?_
      refine V.iconst C dL_require_26 ?_
      rw [hQ]
      exact V.iret C dL_require_27 (by decide) (by decide) (⟨ri hk.symm, _, M2, rfl, fun e9 => n20w hk e9, fun _ => hc2⟩)
  · skip
    obtain ⟨hk, rfl, M2, hw2, hc2⟩ := r1
    rw [hw2]
    show V D 5 A p l e (rmL 9 6 36) s m args below meth c Q 6 36 ([(o, .inl (cy 3, 1, .inr (.inl f)))] ++ cl cy (sa 100) ad n M2) 8 [(0, .ref (ad 0)), (1, vi x), (2, vi z), (3, .ref o)] [vi (bI (!(rq x.toNat).testBit z.toNat)), vi 0, .ref o]
    refine V.if_eqB C 15 dL_require_8 (by decide) (fun h8 => ?_) (fun h8 => ?_)
    · skip
      refine V.lconst C (v := 0) dL_require_15 rfl ?_
      show V D 5 A p l e (rmL 9 6 36) s m args below meth c Q 6 36 ([(o, .inl (cy 3, 1, .inr (.inl f)))] ++ cl cy (sa 100) ad n M2) 16 [(0, .ref (ad 0)), (1, vi x), (2, vi z), (3, .ref o)] [.long 0, vi 0, .ref o]
      refine V.last C (ws2 := [(o, .inl (cy 3, 1, .inr (.inl (vp_updL f (0 : Int).toNat 0))))] ++ cl cy (sa 100) ad n M2) 0 rfl (by decide) (by decide) (by decide) dL_require_16 rfl ?_
      refine V.goto C 28 dL_require_17 (by decide) ?_
      refine V.iconst C dL_require_28 ?_
      rw [hQ]
      exact V.iret C dL_require_29 (by decide) (by decide) (⟨ri hk.symm, _, M2, rfl, fun _ => ⟨by rw [updL_0, L64, h8]; rfl, hc2⟩, fun e9 => absurd hk e9⟩)
    · skip
      refine V.lconst C (v := 1) dL_require_11 rfl ?_
      show V D 5 A p l e (rmL 9 6 36) s m args below meth c Q 6 36 ([(o, .inl (cy 3, 1, .inr (.inl f)))] ++ cl cy (sa 100) ad n M2) 12 [(0, .ref (ad 0)), (1, vi x), (2, vi z), (3, .ref o)] [.long 1, vi 0, .ref o]
      refine V.goto C 16 dL_require_12 (by decide) ?_
      refine V.last C (ws2 := [(o, .inl (cy 3, 1, .inr (.inl (vp_updL f (0 : Int).toNat 1))))] ++ cl cy (sa 100) ad n M2) 0 rfl (by decide) (by decide) (by decide) dL_require_16 rfl ?_
      refine V.goto C 28 dL_require_17 (by decide) ?_
      refine V.iconst C dL_require_28 ?_
      rw [hQ]
      exact V.iret C dL_require_29 (by decide) (by decide) (⟨ri hk.symm, _, M2, rfl, fun _ => ⟨by rw [updL_0, L64, h8]; rfl, hc2⟩, fun e9 => absurd hk e9⟩)
set_option maxHeartbeats 4000000 in
set_option maxRecDepth 100000 in
theorem l_dueDay (l : Launch) (D : va_G) (cy : Nat → ClassId) (sa : Nat → Addr) (hfl : l.stackTraces = false) (o : Nat) (f : Nat → Int64) (ad : Nat → Nat) (n : Nat) (M : Nat → Int → Int) (h : Int → Bool) (td : Int) (q : Nat → Nat → Int) (rq nd : Nat → Nat) (hci : CI h td n q rq nd M) (x : Int) (hx : inR x) (z : Int) (hz : inR z) : CtX l D cy sa yL_dueDay cL_dueDay 5 (some .int) [(0, 10, 13, 13)] 9 6 36 (wx cy sa o f ad n M) [.ref (ad 0), vi x, vi z, .ref o] (fun v ws2 => v = some (vi (kRP n x z)) ∧ ∃ f2 M2, ws2 = wx cy sa o f2 ad n M2 ∧ (kRP n x z = 0 → f2 0 = R64 (dk (dueR h (q x.toNat)) 0 z) ∧ CI h td n q rq nd M2) ∧ (kRP n x z ≠ 0 → CI h td n q rq nd M2)) no_x := by
  refine CtX.of (own := RL) (lc := [(0, .ref (ad 0)), (1, vi x), (2, vi z), (3, .ref o)]) (by decide +kernel) hfl (Nat.le_of_ble_eq_true rfl) rfl rfl ?_
  intro p e s m args below meth c A C hex hnm
  generalize hQ : vx_MQ below (Qo D (fun v ws2 => v = some (vi (kRP n x z)) ∧ ∃ f2 M2, ws2 = wx cy sa o f2 ad n M2 ∧ (kRP n x z = 0 → f2 0 = R64 (dk (dueR h (q x.toNat)) 0 z) ∧ CI h td n q rq nd M2) ∧ (kRP n x z ≠ 0 → CI h td n q rq nd M2)) A) (Xo D no_x A) args s 6 36 A = Q
  replace hQ := hQ.symm
  refine V.aload_n C dL_dueDay_0 3 rfl ?_
  refine V.iconst C dL_dueDay_1 ?_
  refine V.aload_n C dL_dueDay_2 0 rfl ?_
  refine V.iload_n C dL_dueDay_3 1 rfl ?_
  refine V.iload_n C dL_dueDay_4 2 rfl ?_
  refine V.callVc C (wr := [(o, .inl (cy 3, 1, .inr (.inl f)))]) (As := [vi x, vi z]) (st := [vi 0, .ref o]) kV_L_41 (c_dueDay l D cy sa hfl ad n M h td q rq nd hci x hx z hz) 0 cl_0 rfl rfl rfl (Nat.le_of_ble_eq_true rfl) ⟨by decide, by decide⟩ ⟨by decide, by decide⟩ dL_dueDay_5 (fun E w1 hx => ?_) (fun v1 w1 r1 => ?_)
  · skip
    obtain ⟨hE, M2, hw2, hc2⟩ := hx
    rw [hw2]
    obtain ⟨rfl, hk⟩ := hE
    refine VX.catch C (name := xIO) hex [] ⟨0, 10, 13, 13⟩ [] rfl (fun _ h9 => nomatch h9) (by decide) (by decide) cl_L_13 (by decide) (fun q9 => ?_)
    show V D 5 A p l e (rmL 9 6 36) s m args below meth c Q 6 36 ([(o, .inl (cy 3, 1, .inr (.inl f)))] ++ cl cy (sa 100) ad n M2) 13 [(0, .ref (ad 0)), (1, vi x), (2, vi z), (3, .ref o)] [.ref q9]
    refine V.astore C (lc2 := [(4, .ref q9), (0, .ref (ad 0)), (1, vi x), (2, vi z), (3, .ref o)]) dL_dueDay_13 (by decide) rfl ?_
    refine V.iconst C dL_dueDay_15 ?_
    rw [hQ]
    exact V.iret C dL_dueDay_16 (by decide) (by decide) (⟨ri hk.symm, _, M2, rfl, fun e9 => n10w hk e9, fun _ => hc2⟩)
  · skip
    obtain ⟨hk, rfl, M2, hw2, hc2⟩ := r1
    rw [hw2]
    show V D 5 A p l e (rmL 9 6 36) s m args below meth c Q 6 36 ([(o, .inl (cy 3, 1, .inr (.inl f)))] ++ cl cy (sa 100) ad n M2) 8 [(0, .ref (ad 0)), (1, vi x), (2, vi z), (3, .ref o)] [vi (dk (dueR h (q x.toNat)) 0 z), vi 0, .ref o]
    refine V.i2l C dL_dueDay_8 ?_
    refine V.last C (ws2 := [(o, .inl (cy 3, 1, .inr (.inl (vp_updL f (0 : Int).toNat ((zI (dk (dueR h (q x.toNat)) 0 z)).toInt64)))))] ++ cl cy (sa 100) ad n M2) 0 rfl (by decide) (by decide) (by decide) dL_dueDay_9 rfl ?_
    refine V.goto C 17 dL_dueDay_10 (by decide) ?_
    refine V.iconst C dL_dueDay_17 ?_
    rw [hQ]
    exact V.iret C dL_dueDay_18 (by decide) (by decide) (⟨ri hk.symm, _, M2, rfl, fun _ => ⟨updL_0, hc2⟩, fun e9 => absurd hk e9⟩)
set_option maxHeartbeats 4000000 in
set_option maxRecDepth 100000 in
theorem l_duties (l : Launch) (D : va_G) (cy : Nat → ClassId) (sa : Nat → Addr) (hfl : l.stackTraces = false) (o : Nat) (f : Nat → Int64) (ad : Nat → Nat) (n : Nat) (M : Nat → Int → Int) (h : Int → Bool) (td : Int) (q : Nat → Nat → Int) (rq nd : Nat → Nat) (hci : CI h td n q rq nd M) (x : Int) (hx : inR x) : CtX l D cy sa yL_duties cL_duties 4 (some .int) [(0, 9, 12, 13)] 9 6 36 (wx cy sa o f ad n M) [.ref (ad 0), vi x, .ref o] (fun v ws2 => v = some (vi (kRule n x)) ∧ ∃ f2 M2, ws2 = wx cy sa o f2 ad n M2 ∧ (kRule n x = 0 → f2 0 = R64 (ct (dueR h (q x.toNat)) 0 720) ∧ CI h td n q rq nd M2) ∧ (kRule n x ≠ 0 → CI h td n q rq nd M2)) no_x := by
  refine CtX.of (own := RL) (lc := [(0, .ref (ad 0)), (1, vi x), (2, .ref o)]) (by decide +kernel) hfl (Nat.le_of_ble_eq_true rfl) rfl rfl ?_
  intro p e s m args below meth c A C hex hnm
  generalize hQ : vx_MQ below (Qo D (fun v ws2 => v = some (vi (kRule n x)) ∧ ∃ f2 M2, ws2 = wx cy sa o f2 ad n M2 ∧ (kRule n x = 0 → f2 0 = R64 (ct (dueR h (q x.toNat)) 0 720) ∧ CI h td n q rq nd M2) ∧ (kRule n x ≠ 0 → CI h td n q rq nd M2)) A) (Xo D no_x A) args s 6 36 A = Q
  replace hQ := hQ.symm
  refine V.aload_n C dL_duties_0 2 rfl ?_
  refine V.iconst C dL_duties_1 ?_
  refine V.aload_n C dL_duties_2 0 rfl ?_
  refine V.iload_n C dL_duties_3 1 rfl ?_
  refine V.callVc C (wr := [(o, .inl (cy 3, 1, .inr (.inl f)))]) (As := [vi x]) (st := [vi 0, .ref o]) kV_L_44 (c_duties l D cy sa hfl ad n M h td q rq nd hci x hx) 0 cl_0 rfl rfl rfl (Nat.le_of_ble_eq_true rfl) ⟨by decide, by decide⟩ ⟨by decide, by decide⟩ dL_duties_4 (fun E w1 hx => ?_) (fun v1 w1 r1 => ?_)
  · skip
    obtain ⟨hE, M2, hw2, hc2⟩ := hx
    rw [hw2]
    obtain ⟨rfl, hk⟩ := hE
    refine VX.catch C (name := xIO) hex [] ⟨0, 9, 12, 13⟩ [] rfl (fun _ h9 => nomatch h9) (by decide) (by decide) cl_L_13 (by decide) (fun q9 => ?_)
    show V D 4 A p l e (rmL 9 6 36) s m args below meth c Q 6 36 ([(o, .inl (cy 3, 1, .inr (.inl f)))] ++ cl cy (sa 100) ad n M2) 12 [(0, .ref (ad 0)), (1, vi x), (2, .ref o)] [.ref q9]
    refine V.astore_n C (lc2 := [(3, .ref q9), (0, .ref (ad 0)), (1, vi x), (2, .ref o)]) dL_duties_12 (by decide) rfl ?_
    refine V.iconst C dL_duties_13 ?_
    rw [hQ]
    exact V.iret C dL_duties_14 (by decide) (by decide) (⟨ri hk.symm, _, M2, rfl, fun e9 => n10w hk e9, fun _ => hc2⟩)
  · skip
    obtain ⟨hk, rfl, M2, hw2, hc2⟩ := r1
    rw [hw2]
    show V D 4 A p l e (rmL 9 6 36) s m args below meth c Q 6 36 ([(o, .inl (cy 3, 1, .inr (.inl f)))] ++ cl cy (sa 100) ad n M2) 7 [(0, .ref (ad 0)), (1, vi x), (2, .ref o)] [vi (ct (dueR h (q x.toNat)) 0 720), vi 0, .ref o]
    refine V.i2l C dL_duties_7 ?_
    refine V.last C (ws2 := [(o, .inl (cy 3, 1, .inr (.inl (vp_updL f (0 : Int).toNat ((zI (ct (dueR h (q x.toNat)) 0 720)).toInt64)))))] ++ cl cy (sa 100) ad n M2) 0 rfl (by decide) (by decide) (by decide) dL_duties_8 rfl ?_
    refine V.goto C 15 dL_duties_9 (by decide) ?_
    refine V.iconst C dL_duties_15 ?_
    rw [hQ]
    exact V.iret C dL_duties_16 (by decide) (by decide) (⟨ri hk.symm, _, M2, rfl, fun _ => ⟨updL_0, hc2⟩, fun e9 => absurd hk e9⟩)
set_option maxHeartbeats 4000000 in
set_option maxRecDepth 100000 in
theorem l_nextDue (l : Launch) (D : va_G) (cy : Nat → ClassId) (sa : Nat → Addr) (hfl : l.stackTraces = false) (o : Nat) (f : Nat → Int64) (ad : Nat → Nat) (n : Nat) (M : Nat → Int → Int) (h : Int → Bool) (td : Int) (q : Nat → Nat → Int) (rq nd : Nat → Nat) (hci : CI h td n q rq nd M) (x : Int) (hx : inR x) (z : Int) (hz : inR z) : CtX l D cy sa yL_nextDue cL_nextDue 5 (some .int) [(0, 10, 13, 13)] 9 6 36 (wx cy sa o f ad n M) [.ref (ad 0), vi x, vi z, .ref o] (fun v ws2 => v = some (vi (kRD n x z)) ∧ ∃ f2 M2, ws2 = wx cy sa o f2 ad n M2 ∧ (kRD n x z = 0 → f2 0 = R64 (fst (dueR h (q x.toNat)) z) ∧ CI h td n q rq nd M2) ∧ (kRD n x z ≠ 0 → CI h td n q rq nd M2)) no_x := by
  refine CtX.of (own := RL) (lc := [(0, .ref (ad 0)), (1, vi x), (2, vi z), (3, .ref o)]) (by decide +kernel) hfl (Nat.le_of_ble_eq_true rfl) rfl rfl ?_
  intro p e s m args below meth c A C hex hnm
  generalize hQ : vx_MQ below (Qo D (fun v ws2 => v = some (vi (kRD n x z)) ∧ ∃ f2 M2, ws2 = wx cy sa o f2 ad n M2 ∧ (kRD n x z = 0 → f2 0 = R64 (fst (dueR h (q x.toNat)) z) ∧ CI h td n q rq nd M2) ∧ (kRD n x z ≠ 0 → CI h td n q rq nd M2)) A) (Xo D no_x A) args s 6 36 A = Q
  replace hQ := hQ.symm
  refine V.aload_n C dL_nextDue_0 3 rfl ?_
  refine V.iconst C dL_nextDue_1 ?_
  refine V.aload_n C dL_nextDue_2 0 rfl ?_
  refine V.iload_n C dL_nextDue_3 1 rfl ?_
  refine V.iload_n C dL_nextDue_4 2 rfl ?_
  refine V.callVc C (wr := [(o, .inl (cy 3, 1, .inr (.inl f)))]) (As := [vi x, vi z]) (st := [vi 0, .ref o]) kV_L_47 (c_nextDue l D cy sa hfl ad n M h td q rq nd hci x hx z hz) 0 cl_0 rfl rfl rfl (Nat.le_of_ble_eq_true rfl) ⟨by decide, by decide⟩ ⟨by decide, by decide⟩ dL_nextDue_5 (fun E w1 hx => ?_) (fun v1 w1 r1 => ?_)
  · skip
    obtain ⟨hE, M2, hw2, hc2⟩ := hx
    rw [hw2]
    obtain ⟨rfl, hk⟩ := hE
    refine VX.catch C (name := xIO) hex [] ⟨0, 10, 13, 13⟩ [] rfl (fun _ h9 => nomatch h9) (by decide) (by decide) cl_L_13 (by decide) (fun q9 => ?_)
    show V D 5 A p l e (rmL 9 6 36) s m args below meth c Q 6 36 ([(o, .inl (cy 3, 1, .inr (.inl f)))] ++ cl cy (sa 100) ad n M2) 13 [(0, .ref (ad 0)), (1, vi x), (2, vi z), (3, .ref o)] [.ref q9]
    refine V.astore C (lc2 := [(4, .ref q9), (0, .ref (ad 0)), (1, vi x), (2, vi z), (3, .ref o)]) dL_nextDue_13 (by decide) rfl ?_
    refine V.iconst C dL_nextDue_15 ?_
    rw [hQ]
    exact V.iret C dL_nextDue_16 (by decide) (by decide) (⟨ri hk.symm, _, M2, rfl, fun e9 => n10w hk e9, fun _ => hc2⟩)
  · skip
    obtain ⟨hk, rfl, M2, hw2, hc2⟩ := r1
    rw [hw2]
    show V D 5 A p l e (rmL 9 6 36) s m args below meth c Q 6 36 ([(o, .inl (cy 3, 1, .inr (.inl f)))] ++ cl cy (sa 100) ad n M2) 8 [(0, .ref (ad 0)), (1, vi x), (2, vi z), (3, .ref o)] [vi (fst (dueR h (q x.toNat)) z), vi 0, .ref o]
    refine V.i2l C dL_nextDue_8 ?_
    refine V.last C (ws2 := [(o, .inl (cy 3, 1, .inr (.inl (vp_updL f (0 : Int).toNat ((zI (fst (dueR h (q x.toNat)) z)).toInt64)))))] ++ cl cy (sa 100) ad n M2) 0 rfl (by decide) (by decide) (by decide) dL_nextDue_9 rfl ?_
    refine V.goto C 17 dL_nextDue_10 (by decide) ?_
    refine V.iconst C dL_nextDue_17 ?_
    rw [hQ]
    exact V.iret C dL_nextDue_18 (by decide) (by decide) (⟨ri hk.symm, _, M2, rfl, fun _ => ⟨updL_0, hc2⟩, fun e9 => absurd hk e9⟩)
set_option maxHeartbeats 4000000 in
set_option maxRecDepth 100000 in
theorem l_nextDueByWalking (l : Launch) (D : va_G) (cy : Nat → ClassId) (sa : Nat → Addr) (hfl : l.stackTraces = false) (o : Nat) (f : Nat → Int64) (ad : Nat → Nat) (n : Nat) (M : Nat → Int → Int) (h : Int → Bool) (td : Int) (q : Nat → Nat → Int) (rq nd : Nat → Nat) (hci : CI h td n q rq nd M) (x : Int) (hx : inR x) (z : Int) (hz : inR z) : CtX l D cy sa yL_nextDueByWalking cL_nextDueByWalking 5 (some .int) [(0, 10, 13, 13)] 9 6 36 (wx cy sa o f ad n M) [.ref (ad 0), vi x, vi z, .ref o] (fun v ws2 => v = some (vi (kRD n x z)) ∧ ∃ f2 M2, ws2 = wx cy sa o f2 ad n M2 ∧ (kRD n x z = 0 → f2 0 = R64 (fst (dueR h (q x.toNat)) z) ∧ CI h td n q rq nd M2) ∧ (kRD n x z ≠ 0 → CI h td n q rq nd M2)) no_x := by
  refine CtX.of (own := RL) (lc := [(0, .ref (ad 0)), (1, vi x), (2, vi z), (3, .ref o)]) (by decide +kernel) hfl (Nat.le_of_ble_eq_true rfl) rfl rfl ?_
  intro p e s m args below meth c A C hex hnm
  generalize hQ : vx_MQ below (Qo D (fun v ws2 => v = some (vi (kRD n x z)) ∧ ∃ f2 M2, ws2 = wx cy sa o f2 ad n M2 ∧ (kRD n x z = 0 → f2 0 = R64 (fst (dueR h (q x.toNat)) z) ∧ CI h td n q rq nd M2) ∧ (kRD n x z ≠ 0 → CI h td n q rq nd M2)) A) (Xo D no_x A) args s 6 36 A = Q
  replace hQ := hQ.symm
  refine V.aload_n C dL_nextDueByWalking_0 3 rfl ?_
  refine V.iconst C dL_nextDueByWalking_1 ?_
  refine V.aload_n C dL_nextDueByWalking_2 0 rfl ?_
  refine V.iload_n C dL_nextDueByWalking_3 1 rfl ?_
  refine V.iload_n C dL_nextDueByWalking_4 2 rfl ?_
  refine V.callVc C (wr := [(o, .inl (cy 3, 1, .inr (.inl f)))]) (As := [vi x, vi z]) (st := [vi 0, .ref o]) kV_L_50 (c_nextDueByWalking l D cy sa hfl ad n M h td q rq nd hci x hx z hz) 0 cl_0 rfl rfl rfl (Nat.le_of_ble_eq_true rfl) ⟨by decide, by decide⟩ ⟨by decide, by decide⟩ dL_nextDueByWalking_5 (fun E w1 hx => ?_) (fun v1 w1 r1 => ?_)
  · skip
    obtain ⟨hE, M2, hw2, hc2⟩ := hx
    rw [hw2]
    obtain ⟨rfl, hk⟩ := hE
    refine VX.catch C (name := xIO) hex [] ⟨0, 10, 13, 13⟩ [] rfl (fun _ h9 => nomatch h9) (by decide) (by decide) cl_L_13 (by decide) (fun q9 => ?_)
    show V D 5 A p l e (rmL 9 6 36) s m args below meth c Q 6 36 ([(o, .inl (cy 3, 1, .inr (.inl f)))] ++ cl cy (sa 100) ad n M2) 13 [(0, .ref (ad 0)), (1, vi x), (2, vi z), (3, .ref o)] [.ref q9]
    refine V.astore C (lc2 := [(4, .ref q9), (0, .ref (ad 0)), (1, vi x), (2, vi z), (3, .ref o)]) dL_nextDueByWalking_13 (by decide) rfl ?_
    refine V.iconst C dL_nextDueByWalking_15 ?_
    rw [hQ]
    exact V.iret C dL_nextDueByWalking_16 (by decide) (by decide) (⟨ri hk.symm, _, M2, rfl, fun e9 => n10w hk e9, fun _ => hc2⟩)
  · skip
    obtain ⟨hk, rfl, M2, hw2, hc2⟩ := r1
    rw [hw2]
    show V D 5 A p l e (rmL 9 6 36) s m args below meth c Q 6 36 ([(o, .inl (cy 3, 1, .inr (.inl f)))] ++ cl cy (sa 100) ad n M2) 8 [(0, .ref (ad 0)), (1, vi x), (2, vi z), (3, .ref o)] [vi (fst (dueR h (q x.toNat)) z), vi 0, .ref o]
    refine V.i2l C dL_nextDueByWalking_8 ?_
    refine V.last C (ws2 := [(o, .inl (cy 3, 1, .inr (.inl (vp_updL f (0 : Int).toNat ((zI (fst (dueR h (q x.toNat)) z)).toInt64)))))] ++ cl cy (sa 100) ad n M2) 0 rfl (by decide) (by decide) (by decide) dL_nextDueByWalking_9 rfl ?_
    refine V.goto C 17 dL_nextDueByWalking_10 (by decide) ?_
    refine V.iconst C dL_nextDueByWalking_17 ?_
    rw [hQ]
    exact V.iret C dL_nextDueByWalking_18 (by decide) (by decide) (⟨ri hk.symm, _, M2, rfl, fun _ => ⟨updL_0, hc2⟩, fun e9 => absurd hk e9⟩)
set_option maxHeartbeats 4000000 in
set_option maxRecDepth 100000 in
theorem l_upcoming (l : Launch) (D : va_G) (cy : Nat → ClassId) (sa : Nat → Addr) (hfl : l.stackTraces = false) (o : Nat) (f : Nat → Int64) (ad : Nat → Nat) (n : Nat) (M : Nat → Int → Int) (h : Int → Bool) (td : Int) (q : Nat → Nat → Int) (rq nd : Nat → Nat) (hci : CI h td n q rq nd M) (x : Int) (hx : inR x) (z : Int) (hz : inR z) : CtX l D cy sa yL_upcoming cL_upcoming 5 (some .int) [(0, 10, 13, 13)] 9 6 36 (wx cy sa o f ad n M) [.ref (ad 0), vi x, vi z, .ref o] (fun v ws2 => v = some (vi (kDP x z)) ∧ ∃ f2 M2, ws2 = wx cy sa o f2 ad n M2 ∧ (kDP x z = 0 → f2 0 = R64 (upc h q n x z) ∧ CI h td n q rq nd M2) ∧ (kDP x z ≠ 0 → CI h td n q rq nd M2)) no_x := by
  refine CtX.of (own := RL) (lc := [(0, .ref (ad 0)), (1, vi x), (2, vi z), (3, .ref o)]) (by decide +kernel) hfl (Nat.le_of_ble_eq_true rfl) rfl rfl ?_
  intro p e s m args below meth c A C hex hnm
  generalize hQ : vx_MQ below (Qo D (fun v ws2 => v = some (vi (kDP x z)) ∧ ∃ f2 M2, ws2 = wx cy sa o f2 ad n M2 ∧ (kDP x z = 0 → f2 0 = R64 (upc h q n x z) ∧ CI h td n q rq nd M2) ∧ (kDP x z ≠ 0 → CI h td n q rq nd M2)) A) (Xo D no_x A) args s 6 36 A = Q
  replace hQ := hQ.symm
  refine V.aload_n C dL_upcoming_0 3 rfl ?_
  refine V.iconst C dL_upcoming_1 ?_
  refine V.aload_n C dL_upcoming_2 0 rfl ?_
  refine V.iload_n C dL_upcoming_3 1 rfl ?_
  refine V.iload_n C dL_upcoming_4 2 rfl ?_
  refine V.callVc C (wr := [(o, .inl (cy 3, 1, .inr (.inl f)))]) (As := [vi x, vi z]) (st := [vi 0, .ref o]) kV_L_53 (c_upcoming l D cy sa hfl ad n M h td q rq nd hci x hx z hz) 0 cl_0 rfl rfl rfl (Nat.le_of_ble_eq_true rfl) ⟨by decide, by decide⟩ ⟨by decide, by decide⟩ dL_upcoming_5 (fun E w1 hx => ?_) (fun v1 w1 r1 => ?_)
  · skip
    obtain ⟨hE, M2, hw2, hc2⟩ := hx
    rw [hw2]
    obtain ⟨rfl, hk⟩ := hE
    refine VX.catch C (name := xIO) hex [] ⟨0, 10, 13, 13⟩ [] rfl (fun _ h9 => nomatch h9) (by decide) (by decide) cl_L_13 (by decide) (fun q9 => ?_)
    show V D 5 A p l e (rmL 9 6 36) s m args below meth c Q 6 36 ([(o, .inl (cy 3, 1, .inr (.inl f)))] ++ cl cy (sa 100) ad n M2) 13 [(0, .ref (ad 0)), (1, vi x), (2, vi z), (3, .ref o)] [.ref q9]
    refine V.astore C (lc2 := [(4, .ref q9), (0, .ref (ad 0)), (1, vi x), (2, vi z), (3, .ref o)]) dL_upcoming_13 (by decide) rfl ?_
    refine V.iconst C dL_upcoming_15 ?_
    rw [hQ]
    exact V.iret C dL_upcoming_16 (by decide) (by decide) (⟨ri hk.symm, _, M2, rfl, fun e9 => n10w hk e9, fun _ => hc2⟩)
  · skip
    obtain ⟨hk, rfl, M2, hw2, hc2⟩ := r1
    rw [hw2]
    show V D 5 A p l e (rmL 9 6 36) s m args below meth c Q 6 36 ([(o, .inl (cy 3, 1, .inr (.inl f)))] ++ cl cy (sa 100) ad n M2) 8 [(0, .ref (ad 0)), (1, vi x), (2, vi z), (3, .ref o)] [vi (upc h q n x z), vi 0, .ref o]
    refine V.i2l C dL_upcoming_8 ?_
    refine V.last C (ws2 := [(o, .inl (cy 3, 1, .inr (.inl (vp_updL f (0 : Int).toNat ((zI (upc h q n x z)).toInt64)))))] ++ cl cy (sa 100) ad n M2) 0 rfl (by decide) (by decide) (by decide) dL_upcoming_9 rfl ?_
    refine V.goto C 17 dL_upcoming_10 (by decide) ?_
    refine V.iconst C dL_upcoming_17 ?_
    rw [hQ]
    exact V.iret C dL_upcoming_18 (by decide) (by decide) (⟨ri hk.symm, _, M2, rfl, fun _ => ⟨updL_0, hc2⟩, fun e9 => absurd hk e9⟩)
set_option maxHeartbeats 4000000 in
set_option maxRecDepth 100000 in
theorem l_finish (l : Launch) (D : va_G) (cy : Nat → ClassId) (sa : Nat → Addr) (hfl : l.stackTraces = false) (o : Nat) (f : Nat → Int64) (ad : Nat → Nat) (n : Nat) (M : Nat → Int → Int) (h : Int → Bool) (td : Int) (q : Nat → Nat → Int) (rq nd : Nat → Nat) (hci : CI h td n q rq nd M) (x : Int) (hx : inR x) : CtX l D cy sa yL_finish cL_finish 4 (some .int) [(0, 9, 12, 13), (0, 9, 15, 59), (0, 9, 18, 28)] 9 6 36 (wx cy sa o f ad n M) [.ref (ad 0), vi x, .ref o] (fun v ws2 => v = some (vi (kFin h n q rq x)) ∧ ∃ f2 M2, ws2 = wx cy sa o f2 ad n M2 ∧ (kFin h n q rq x = 0 → f2 0 = R64 (td - fo h q x.toNat) ∧ CI h td n (qfin q x.toNat td) rq nd M2) ∧ (kFin h n q rq x ≠ 0 → CI h td n q rq nd M2)) no_x := by
  refine CtX.of (own := RL) (lc := [(0, .ref (ad 0)), (1, vi x), (2, .ref o)]) (by decide +kernel) hfl (Nat.le_of_ble_eq_true rfl) rfl rfl ?_
  intro p e s m args below meth c A C hex hnm
  generalize hQ : vx_MQ below (Qo D (fun v ws2 => v = some (vi (kFin h n q rq x)) ∧ ∃ f2 M2, ws2 = wx cy sa o f2 ad n M2 ∧ (kFin h n q rq x = 0 → f2 0 = R64 (td - fo h q x.toNat) ∧ CI h td n (qfin q x.toNat td) rq nd M2) ∧ (kFin h n q rq x ≠ 0 → CI h td n q rq nd M2)) A) (Xo D no_x A) args s 6 36 A = Q
  replace hQ := hQ.symm
  refine V.aload_n C dL_finish_0 2 rfl ?_
  refine V.iconst C dL_finish_1 ?_
  refine V.aload_n C dL_finish_2 0 rfl ?_
  refine V.iload_n C dL_finish_3 1 rfl ?_
  refine V.callVc C (wr := [(o, .inl (cy 3, 1, .inr (.inl f)))]) (As := [vi x]) (st := [vi 0, .ref o]) kV_L_56 (c_finish l D cy sa hfl ad n M h td q rq nd hci x hx) 0 cl_0 rfl rfl rfl (Nat.le_of_ble_eq_true rfl) ⟨by decide, by decide⟩ ⟨by decide, by decide⟩ dL_finish_4 (fun E w1 hx => ?_) (fun v1 w1 r1 => ?_)
  · skip
    obtain ⟨hE, M2, hw2, hc2⟩ := hx
    rw [hw2]
    rcases hE with ⟨rfl, hk⟩ | ⟨rfl, hk⟩ | ⟨rfl, hk⟩
    · skip
      refine VX.catch C (name := xIO) hex [] ⟨0, 9, 12, 13⟩ [⟨0, 9, 15, 59⟩, ⟨0, 9, 18, 28⟩] rfl (fun _ h9 => nomatch h9) (by decide) (by decide) cl_L_13 (by decide) (fun q9 => ?_)
      show V D 4 A p l e (rmL 9 6 36) s m args below meth c Q 6 36 ([(o, .inl (cy 3, 1, .inr (.inl f)))] ++ cl cy (sa 100) ad n M2) 12 [(0, .ref (ad 0)), (1, vi x), (2, .ref o)] [.ref q9]
      refine V.astore_n C (lc2 := [(3, .ref q9), (0, .ref (ad 0)), (1, vi x), (2, .ref o)]) dL_finish_12 (by decide) rfl ?_
      refine V.iconst C dL_finish_13 ?_
      rw [hQ]
      exact V.iret C dL_finish_14 (by decide) (by decide) (⟨ri hk.symm, _, M2, rfl, fun e9 => n10w hk e9, fun _ => hc2⟩)
    · skip
      refine VX.catch C (name := xNS) hex [⟨0, 9, 12, 13⟩] ⟨0, 9, 15, 59⟩ [⟨0, 9, 18, 28⟩] rfl (List.forall_mem_singleton.mpr ⟨xIO, by decide, cl_L_13, by decide⟩) (by decide) (by decide) cl_L_59 (by decide) (fun q9 => ?_)
      show V D 4 A p l e (rmL 9 6 36) s m args below meth c Q 6 36 ([(o, .inl (cy 3, 1, .inr (.inl f)))] ++ cl cy (sa 100) ad n M2) 15 [(0, .ref (ad 0)), (1, vi x), (2, .ref o)] [.ref q9]
      refine V.astore_n C (lc2 := [(3, .ref q9), (0, .ref (ad 0)), (1, vi x), (2, .ref o)]) dL_finish_15 (by decide) rfl ?_
      refine V.iconst C dL_finish_16 ?_
      rw [hQ]
      exact V.iret C dL_finish_17 (by decide) (by decide) (⟨ri hk.symm, _, M2, rfl, fun e9 => n20w hk e9, fun _ => hc2⟩)
    · skip
      refine VX.catch C (name := xIS) hex [⟨0, 9, 12, 13⟩, ⟨0, 9, 15, 59⟩] ⟨0, 9, 18, 28⟩ [] rfl (List.forall_mem_cons.mpr ⟨⟨xIO, by decide, cl_L_13, by decide⟩, List.forall_mem_singleton.mpr ⟨xNS, by decide, cl_L_59, by decide⟩⟩) (by decide) (by decide) cl_L_28 (by decide) (fun q9 => ?_)
      show V D 4 A p l e (rmL 9 6 36) s m args below meth c Q 6 36 ([(o, .inl (cy 3, 1, .inr (.inl f)))] ++ cl cy (sa 100) ad n M2) 18 [(0, .ref (ad 0)), (1, vi x), (2, .ref o)] [.ref q9]
      refine V.astore_n C (lc2 := [(3, .ref q9), (0, .ref (ad 0)), (1, vi x), (2, .ref o)]) dL_finish_18 (by decide) rfl ?_
      refine V.iconst C dL_finish_19 ?_
      rw [hQ]
      exact V.iret C dL_finish_20 (by decide) (by decide) (⟨ri hk.symm, _, M2, rfl, fun e9 => n30w hk e9, fun _ => hc2⟩)
  · skip
    obtain ⟨hk, rfl, M2, hw2, hc2⟩ := r1
    rw [hw2]
    show V D 4 A p l e (rmL 9 6 36) s m args below meth c Q 6 36 ([(o, .inl (cy 3, 1, .inr (.inl f)))] ++ cl cy (sa 100) ad n M2) 7 [(0, .ref (ad 0)), (1, vi x), (2, .ref o)] [vi (td - fo h q x.toNat), vi 0, .ref o]
    refine V.i2l C dL_finish_7 ?_
    refine V.last C (ws2 := [(o, .inl (cy 3, 1, .inr (.inl (vp_updL f (0 : Int).toNat ((zI (td - fo h q x.toNat)).toInt64)))))] ++ cl cy (sa 100) ad n M2) 0 rfl (by decide) (by decide) (by decide) dL_finish_8 rfl ?_
    refine V.goto C 21 dL_finish_9 (by decide) ?_
    refine V.iconst C dL_finish_21 ?_
    rw [hQ]
    exact V.iret C dL_finish_22 (by decide) (by decide) (⟨ri hk.symm, _, M2, rfl, fun _ => ⟨updL_0, hc2⟩, fun e9 => absurd hk e9⟩)
set_option maxHeartbeats 4000000 in
set_option maxRecDepth 100000 in
theorem l_open (l : Launch) (D : va_G) (cy : Nat → ClassId) (sa : Nat → Addr) (hfl : l.stackTraces = false) (o : Nat) (f : Nat → Int64) (ad : Nat → Nat) (n : Nat) (M : Nat → Int → Int) (h : Int → Bool) (td : Int) (q : Nat → Nat → Int) (rq nd : Nat → Nat) (hci : CI h td n q rq nd M) (x : Int) (hx : inR x) : CtX l D cy sa yL_open cL_open 4 (some .int) [(0, 9, 12, 13)] 9 6 36 (wx cy sa o f ad n M) [.ref (ad 0), vi x, .ref o] (fun v ws2 => v = some (vi (kRule n x)) ∧ ∃ f2 M2, ws2 = wx cy sa o f2 ad n M2 ∧ (kRule n x = 0 → f2 0 = R64 (dk (dueR h (q x.toNat)) 0 (q x.toNat 8)) ∧ CI h td n q rq nd M2) ∧ (kRule n x ≠ 0 → CI h td n q rq nd M2)) no_x := by
  refine CtX.of (own := RL) (lc := [(0, .ref (ad 0)), (1, vi x), (2, .ref o)]) (by decide +kernel) hfl (Nat.le_of_ble_eq_true rfl) rfl rfl ?_
  intro p e s m args below meth c A C hex hnm
  generalize hQ : vx_MQ below (Qo D (fun v ws2 => v = some (vi (kRule n x)) ∧ ∃ f2 M2, ws2 = wx cy sa o f2 ad n M2 ∧ (kRule n x = 0 → f2 0 = R64 (dk (dueR h (q x.toNat)) 0 (q x.toNat 8)) ∧ CI h td n q rq nd M2) ∧ (kRule n x ≠ 0 → CI h td n q rq nd M2)) A) (Xo D no_x A) args s 6 36 A = Q
  replace hQ := hQ.symm
  refine V.aload_n C dL_open_0 2 rfl ?_
  refine V.iconst C dL_open_1 ?_
  refine V.aload_n C dL_open_2 0 rfl ?_
  refine V.iload_n C dL_open_3 1 rfl ?_
  refine V.callVc C (wr := [(o, .inl (cy 3, 1, .inr (.inl f)))]) (As := [vi x]) (st := [vi 0, .ref o]) kV_L_61 (c_open l D cy sa hfl ad n M h td q rq nd hci x hx) 0 cl_0 rfl rfl rfl (Nat.le_of_ble_eq_true rfl) ⟨by decide, by decide⟩ ⟨by decide, by decide⟩ dL_open_4 (fun E w1 hx => ?_) (fun v1 w1 r1 => ?_)
  · skip
    obtain ⟨hE, M2, hw2, hc2⟩ := hx
    rw [hw2]
    obtain ⟨rfl, hk⟩ := hE
    refine VX.catch C (name := xIO) hex [] ⟨0, 9, 12, 13⟩ [] rfl (fun _ h9 => nomatch h9) (by decide) (by decide) cl_L_13 (by decide) (fun q9 => ?_)
    show V D 4 A p l e (rmL 9 6 36) s m args below meth c Q 6 36 ([(o, .inl (cy 3, 1, .inr (.inl f)))] ++ cl cy (sa 100) ad n M2) 12 [(0, .ref (ad 0)), (1, vi x), (2, .ref o)] [.ref q9]
    refine V.astore_n C (lc2 := [(3, .ref q9), (0, .ref (ad 0)), (1, vi x), (2, .ref o)]) dL_open_12 (by decide) rfl ?_
    refine V.iconst C dL_open_13 ?_
    rw [hQ]
    exact V.iret C dL_open_14 (by decide) (by decide) (⟨ri hk.symm, _, M2, rfl, fun e9 => n10w hk e9, fun _ => hc2⟩)
  · skip
    obtain ⟨hk, rfl, M2, hw2, hc2⟩ := r1
    rw [hw2]
    show V D 4 A p l e (rmL 9 6 36) s m args below meth c Q 6 36 ([(o, .inl (cy 3, 1, .inr (.inl f)))] ++ cl cy (sa 100) ad n M2) 7 [(0, .ref (ad 0)), (1, vi x), (2, .ref o)] [vi (dk (dueR h (q x.toNat)) 0 (q x.toNat 8)), vi 0, .ref o]
    refine V.i2l C dL_open_7 ?_
    refine V.last C (ws2 := [(o, .inl (cy 3, 1, .inr (.inl (vp_updL f (0 : Int).toNat ((zI (dk (dueR h (q x.toNat)) 0 (q x.toNat 8))).toInt64)))))] ++ cl cy (sa 100) ad n M2) 0 rfl (by decide) (by decide) (by decide) dL_open_8 rfl ?_
    refine V.goto C 15 dL_open_9 (by decide) ?_
    refine V.iconst C dL_open_15 ?_
    rw [hQ]
    exact V.iret C dL_open_16 (by decide) (by decide) (⟨ri hk.symm, _, M2, rfl, fun _ => ⟨updL_0, hc2⟩, fun e9 => absurd hk e9⟩)
set_option maxHeartbeats 4000000 in
set_option maxRecDepth 100000 in
theorem l_finished (l : Launch) (D : va_G) (cy : Nat → ClassId) (sa : Nat → Addr) (hfl : l.stackTraces = false) (o : Nat) (f : Nat → Int64) (ad : Nat → Nat) (n : Nat) (M : Nat → Int → Int) (h : Int → Bool) (td : Int) (q : Nat → Nat → Int) (rq nd : Nat → Nat) (hci : CI h td n q rq nd M) (x : Int) (hx : inR x) : CtX l D cy sa yL_finished cL_finished 4 (some .int) [(0, 9, 12, 13)] 9 6 36 (wx cy sa o f ad n M) [.ref (ad 0), vi x, .ref o] (fun v ws2 => v = some (vi (kRule n x)) ∧ ∃ f2 M2, ws2 = wx cy sa o f2 ad n M2 ∧ (kRule n x = 0 → f2 0 = R64 (q x.toNat 8) ∧ CI h td n q rq nd M2) ∧ (kRule n x ≠ 0 → CI h td n q rq nd M2)) no_x := by
  refine CtX.of (own := RL) (lc := [(0, .ref (ad 0)), (1, vi x), (2, .ref o)]) (by decide +kernel) hfl (Nat.le_of_ble_eq_true rfl) rfl rfl ?_
  intro p e s m args below meth c A C hex hnm
  generalize hQ : vx_MQ below (Qo D (fun v ws2 => v = some (vi (kRule n x)) ∧ ∃ f2 M2, ws2 = wx cy sa o f2 ad n M2 ∧ (kRule n x = 0 → f2 0 = R64 (q x.toNat 8) ∧ CI h td n q rq nd M2) ∧ (kRule n x ≠ 0 → CI h td n q rq nd M2)) A) (Xo D no_x A) args s 6 36 A = Q
  replace hQ := hQ.symm
  refine V.aload_n C dL_finished_0 2 rfl ?_
  refine V.iconst C dL_finished_1 ?_
  refine V.aload_n C dL_finished_2 0 rfl ?_
  refine V.iload_n C dL_finished_3 1 rfl ?_
  refine V.callVc C (wr := [(o, .inl (cy 3, 1, .inr (.inl f)))]) (As := [vi x]) (st := [vi 0, .ref o]) kV_L_64 (c_finished l D cy sa hfl ad n M h td q rq nd hci x hx) 0 cl_0 rfl rfl rfl (Nat.le_of_ble_eq_true rfl) ⟨by decide, by decide⟩ ⟨by decide, by decide⟩ dL_finished_4 (fun E w1 hx => ?_) (fun v1 w1 r1 => ?_)
  · skip
    obtain ⟨hE, M2, hw2, hc2⟩ := hx
    rw [hw2]
    obtain ⟨rfl, hk⟩ := hE
    refine VX.catch C (name := xIO) hex [] ⟨0, 9, 12, 13⟩ [] rfl (fun _ h9 => nomatch h9) (by decide) (by decide) cl_L_13 (by decide) (fun q9 => ?_)
    show V D 4 A p l e (rmL 9 6 36) s m args below meth c Q 6 36 ([(o, .inl (cy 3, 1, .inr (.inl f)))] ++ cl cy (sa 100) ad n M2) 12 [(0, .ref (ad 0)), (1, vi x), (2, .ref o)] [.ref q9]
    refine V.astore_n C (lc2 := [(3, .ref q9), (0, .ref (ad 0)), (1, vi x), (2, .ref o)]) dL_finished_12 (by decide) rfl ?_
    refine V.iconst C dL_finished_13 ?_
    rw [hQ]
    exact V.iret C dL_finished_14 (by decide) (by decide) (⟨ri hk.symm, _, M2, rfl, fun e9 => n10w hk e9, fun _ => hc2⟩)
  · skip
    obtain ⟨hk, rfl, M2, hw2, hc2⟩ := r1
    rw [hw2]
    show V D 4 A p l e (rmL 9 6 36) s m args below meth c Q 6 36 ([(o, .inl (cy 3, 1, .inr (.inl f)))] ++ cl cy (sa 100) ad n M2) 7 [(0, .ref (ad 0)), (1, vi x), (2, .ref o)] [vi (q x.toNat 8), vi 0, .ref o]
    refine V.i2l C dL_finished_7 ?_
    refine V.last C (ws2 := [(o, .inl (cy 3, 1, .inr (.inl (vp_updL f (0 : Int).toNat ((zI (q x.toNat 8)).toInt64)))))] ++ cl cy (sa 100) ad n M2) 0 rfl (by decide) (by decide) (by decide) dL_finished_8 rfl ?_
    refine V.goto C 15 dL_finished_9 (by decide) ?_
    refine V.iconst C dL_finished_15 ?_
    rw [hQ]
    exact V.iret C dL_finished_16 (by decide) (by decide) (⟨ri hk.symm, _, M2, rfl, fun _ => ⟨updL_0, hc2⟩, fun e9 => absurd hk e9⟩)
set_option maxHeartbeats 4000000 in
set_option maxRecDepth 100000 in
theorem l_blockedBy (l : Launch) (D : va_G) (cy : Nat → ClassId) (sa : Nat → Addr) (hfl : l.stackTraces = false) (o : Nat) (f : Nat → Int64) (ad : Nat → Nat) (n : Nat) (M : Nat → Int → Int) (h : Int → Bool) (td : Int) (q : Nat → Nat → Int) (rq nd : Nat → Nat) (hci : CI h td n q rq nd M) (x : Int) (hx : inR x) : CtX l D cy sa yL_blockedBy cL_blockedBy 4 (some .int) [(0, 9, 12, 13)] 9 6 36 (wx cy sa o f ad n M) [.ref (ad 0), vi x, .ref o] (fun v ws2 => v = some (vi (kRule n x)) ∧ ∃ f2 M2, ws2 = wx cy sa o f2 ad n M2 ∧ (kRule n x = 0 → f2 0 = R64 (lb n (rq x.toNat) (fo h q) (fo h q x.toNat)) ∧ CI h td n q rq nd M2) ∧ (kRule n x ≠ 0 → CI h td n q rq nd M2)) no_x := by
  refine CtX.of (own := RL) (lc := [(0, .ref (ad 0)), (1, vi x), (2, .ref o)]) (by decide +kernel) hfl (Nat.le_of_ble_eq_true rfl) rfl rfl ?_
  intro p e s m args below meth c A C hex hnm
  generalize hQ : vx_MQ below (Qo D (fun v ws2 => v = some (vi (kRule n x)) ∧ ∃ f2 M2, ws2 = wx cy sa o f2 ad n M2 ∧ (kRule n x = 0 → f2 0 = R64 (lb n (rq x.toNat) (fo h q) (fo h q x.toNat)) ∧ CI h td n q rq nd M2) ∧ (kRule n x ≠ 0 → CI h td n q rq nd M2)) A) (Xo D no_x A) args s 6 36 A = Q
  replace hQ := hQ.symm
  refine V.aload_n C dL_blockedBy_0 2 rfl ?_
  refine V.iconst C dL_blockedBy_1 ?_
  refine V.aload_n C dL_blockedBy_2 0 rfl ?_
  refine V.iload_n C dL_blockedBy_3 1 rfl ?_
  refine V.callVc C (wr := [(o, .inl (cy 3, 1, .inr (.inl f)))]) (As := [vi x]) (st := [vi 0, .ref o]) kV_L_67 (c_blockedBy l D cy sa hfl ad n M h td q rq nd hci x hx) 0 cl_0 rfl rfl rfl (Nat.le_of_ble_eq_true rfl) ⟨by decide, by decide⟩ ⟨by decide, by decide⟩ dL_blockedBy_4 (fun E w1 hx => ?_) (fun v1 w1 r1 => ?_)
  · skip
    obtain ⟨hE, M2, hw2, hc2⟩ := hx
    rw [hw2]
    obtain ⟨rfl, hk⟩ := hE
    refine VX.catch C (name := xIO) hex [] ⟨0, 9, 12, 13⟩ [] rfl (fun _ h9 => nomatch h9) (by decide) (by decide) cl_L_13 (by decide) (fun q9 => ?_)
    show V D 4 A p l e (rmL 9 6 36) s m args below meth c Q 6 36 ([(o, .inl (cy 3, 1, .inr (.inl f)))] ++ cl cy (sa 100) ad n M2) 12 [(0, .ref (ad 0)), (1, vi x), (2, .ref o)] [.ref q9]
    refine V.astore_n C (lc2 := [(3, .ref q9), (0, .ref (ad 0)), (1, vi x), (2, .ref o)]) dL_blockedBy_12 (by decide) rfl ?_
    refine V.iconst C dL_blockedBy_13 ?_
    rw [hQ]
    exact V.iret C dL_blockedBy_14 (by decide) (by decide) (⟨ri hk.symm, _, M2, rfl, fun e9 => n10w hk e9, fun _ => hc2⟩)
  · skip
    obtain ⟨hk, rfl, M2, hw2, hc2⟩ := r1
    rw [hw2]
    show V D 4 A p l e (rmL 9 6 36) s m args below meth c Q 6 36 ([(o, .inl (cy 3, 1, .inr (.inl f)))] ++ cl cy (sa 100) ad n M2) 7 [(0, .ref (ad 0)), (1, vi x), (2, .ref o)] [vi (lb n (rq x.toNat) (fo h q) (fo h q x.toNat)), vi 0, .ref o]
    refine V.i2l C dL_blockedBy_7 ?_
    refine V.last C (ws2 := [(o, .inl (cy 3, 1, .inr (.inl (vp_updL f (0 : Int).toNat ((zI (lb n (rq x.toNat) (fo h q) (fo h q x.toNat))).toInt64)))))] ++ cl cy (sa 100) ad n M2) 0 rfl (by decide) (by decide) (by decide) dL_blockedBy_8 rfl ?_
    refine V.goto C 15 dL_blockedBy_9 (by decide) ?_
    refine V.iconst C dL_blockedBy_15 ?_
    rw [hQ]
    exact V.iret C dL_blockedBy_16 (by decide) (by decide) (⟨ri hk.symm, _, M2, rfl, fun _ => ⟨updL_0, hc2⟩, fun e9 => absurd hk e9⟩)
set_option maxHeartbeats 4000000 in
set_option maxRecDepth 100000 in
theorem l_order (l : Launch) (D : va_G) (cy : Nat → ClassId) (sa : Nat → Addr) (hfl : l.stackTraces = false) (o : Nat) (f : Nat → Int64) (ad : Nat → Nat) (n : Nat) (M : Nat → Int → Int) (h : Int → Bool) (td : Int) (q : Nat → Nat → Int) (rq nd : Nat → Nat) (hci : CI h td n q rq nd M) (x : Int) (hx : inR x) (z : Int) (hz : inR z) : CtX l D cy sa yL_order cL_order 5 (some .int) [(0, 10, 13, 13)] 9 6 36 (wx cy sa o f ad n M) [.ref (ad 0), vi x, vi z, .ref o] (fun v ws2 => v = some (vi (kDP x z)) ∧ ∃ f2 M2, ws2 = wx cy sa o f2 ad n M2 ∧ (kDP x z = 0 → f2 0 = R64 (ordF h q n rq x 5760 (fo h q) z) ∧ CI h td n q rq nd M2) ∧ (kDP x z ≠ 0 → CI h td n q rq nd M2)) no_x := by
  refine CtX.of (own := RL) (lc := [(0, .ref (ad 0)), (1, vi x), (2, vi z), (3, .ref o)]) (by decide +kernel) hfl (Nat.le_of_ble_eq_true rfl) rfl rfl ?_
  intro p e s m args below meth c A C hex hnm
  generalize hQ : vx_MQ below (Qo D (fun v ws2 => v = some (vi (kDP x z)) ∧ ∃ f2 M2, ws2 = wx cy sa o f2 ad n M2 ∧ (kDP x z = 0 → f2 0 = R64 (ordF h q n rq x 5760 (fo h q) z) ∧ CI h td n q rq nd M2) ∧ (kDP x z ≠ 0 → CI h td n q rq nd M2)) A) (Xo D no_x A) args s 6 36 A = Q
  replace hQ := hQ.symm
  refine V.aload_n C dL_order_0 3 rfl ?_
  refine V.iconst C dL_order_1 ?_
  refine V.aload_n C dL_order_2 0 rfl ?_
  refine V.iload_n C dL_order_3 1 rfl ?_
  refine V.iload_n C dL_order_4 2 rfl ?_
  refine V.callVc C (wr := [(o, .inl (cy 3, 1, .inr (.inl f)))]) (As := [vi x, vi z]) (st := [vi 0, .ref o]) kV_L_70 (c_order l D cy sa hfl ad n M h td q rq nd hci x hx z hz) 0 cl_0 rfl rfl rfl (Nat.le_of_ble_eq_true rfl) ⟨by decide, by decide⟩ ⟨by decide, by decide⟩ dL_order_5 (fun E w1 hx => ?_) (fun v1 w1 r1 => ?_)
  · skip
    obtain ⟨hE, M2, hw2, hc2⟩ := hx
    rw [hw2]
    obtain ⟨rfl, hk⟩ := hE
    refine VX.catch C (name := xIO) hex [] ⟨0, 10, 13, 13⟩ [] rfl (fun _ h9 => nomatch h9) (by decide) (by decide) cl_L_13 (by decide) (fun q9 => ?_)
    show V D 5 A p l e (rmL 9 6 36) s m args below meth c Q 6 36 ([(o, .inl (cy 3, 1, .inr (.inl f)))] ++ cl cy (sa 100) ad n M2) 13 [(0, .ref (ad 0)), (1, vi x), (2, vi z), (3, .ref o)] [.ref q9]
    refine V.astore C (lc2 := [(4, .ref q9), (0, .ref (ad 0)), (1, vi x), (2, vi z), (3, .ref o)]) dL_order_13 (by decide) rfl ?_
    refine V.iconst C dL_order_15 ?_
    rw [hQ]
    exact V.iret C dL_order_16 (by decide) (by decide) (⟨ri hk.symm, _, M2, rfl, fun e9 => n10w hk e9, fun _ => hc2⟩)
  · skip
    obtain ⟨hk, rfl, M2, hw2, hc2⟩ := r1
    rw [hw2]
    show V D 5 A p l e (rmL 9 6 36) s m args below meth c Q 6 36 ([(o, .inl (cy 3, 1, .inr (.inl f)))] ++ cl cy (sa 100) ad n M2) 8 [(0, .ref (ad 0)), (1, vi x), (2, vi z), (3, .ref o)] [vi (ordF h q n rq x 5760 (fo h q) z), vi 0, .ref o]
    refine V.i2l C dL_order_8 ?_
    refine V.last C (ws2 := [(o, .inl (cy 3, 1, .inr (.inl (vp_updL f (0 : Int).toNat ((zI (ordF h q n rq x 5760 (fo h q) z)).toInt64)))))] ++ cl cy (sa 100) ad n M2) 0 rfl (by decide) (by decide) (by decide) dL_order_9 rfl ?_
    refine V.goto C 17 dL_order_10 (by decide) ?_
    refine V.iconst C dL_order_17 ?_
    rw [hQ]
    exact V.iret C dL_order_18 (by decide) (by decide) (⟨ri hk.symm, _, M2, rfl, fun _ => ⟨updL_0, hc2⟩, fun e9 => absurd hk e9⟩)
set_option maxHeartbeats 4000000 in
set_option maxRecDepth 100000 in
theorem l_isCovered (l : Launch) (D : va_G) (cy : Nat → ClassId) (sa : Nat → Addr) (hfl : l.stackTraces = false) (o : Nat) (f : Nat → Int64) (ad : Nat → Nat) (n : Nat) (M : Nat → Int → Int) (h : Int → Bool) (td : Int) (q : Nat → Nat → Int) (rq nd : Nat → Nat) (hci : CI h td n q rq nd M) (x : Int) (hx : inR x) (z : Int) (hz : inR z) : CtX l D cy sa yL_isCovered cL_isCovered 5 (some .int) [(0, 17, 20, 13)] 9 6 36 (wx cy sa o f ad n M) [.ref (ad 0), vi x, vi z, .ref o] (fun v ws2 => v = some (vi (kRD n x z)) ∧ ∃ f2 M2, ws2 = wx cy sa o f2 ad n M2 ∧ (kRD n x z = 0 → f2 0 = L64 (covd (q x.toNat) z) ∧ CI h td n q rq nd M2) ∧ (kRD n x z ≠ 0 → CI h td n q rq nd M2)) no_x := by
  refine CtX.of (own := RL) (lc := [(0, .ref (ad 0)), (1, vi x), (2, vi z), (3, .ref o)]) (by decide +kernel) hfl (Nat.le_of_ble_eq_true rfl) rfl rfl ?_
  intro p e s m args below meth c A C hex hnm
  generalize hQ : vx_MQ below (Qo D (fun v ws2 => v = some (vi (kRD n x z)) ∧ ∃ f2 M2, ws2 = wx cy sa o f2 ad n M2 ∧ (kRD n x z = 0 → f2 0 = L64 (covd (q x.toNat) z) ∧ CI h td n q rq nd M2) ∧ (kRD n x z ≠ 0 → CI h td n q rq nd M2)) A) (Xo D no_x A) args s 6 36 A = Q
  replace hQ := hQ.symm
  refine V.aload_n C dL_isCovered_0 3 rfl ?_
  refine V.iconst C dL_isCovered_1 ?_
  refine V.aload_n C dL_isCovered_2 0 rfl ?_
  refine V.iload_n C dL_isCovered_3 1 rfl ?_
  refine V.iload_n C dL_isCovered_4 2 rfl ?_
  refine V.callVc C (wr := [(o, .inl (cy 3, 1, .inr (.inl f)))]) (As := [vi x, vi z]) (st := [vi 0, .ref o]) kV_L_73 (c_isCovered l D cy sa hfl ad n M h td q rq nd hci x hx z hz) 0 cl_0 rfl rfl rfl (Nat.le_of_ble_eq_true rfl) ⟨by decide, by decide⟩ ⟨by decide, by decide⟩ dL_isCovered_5 (fun E w1 hx => ?_) (fun v1 w1 r1 => ?_)
  · skip
    obtain ⟨hE, M2, hw2, hc2⟩ := hx
    rw [hw2]
    obtain ⟨rfl, hk⟩ := hE
    refine VX.catch C (name := xIO) hex [] ⟨0, 17, 20, 13⟩ [] rfl (fun _ h9 => nomatch h9) (by decide) (by decide) cl_L_13 (by decide) (fun q9 => ?_)
    show V D 5 A p l e (rmL 9 6 36) s m args below meth c Q 6 36 ([(o, .inl (cy 3, 1, .inr (.inl f)))] ++ cl cy (sa 100) ad n M2) 20 [(0, .ref (ad 0)), (1, vi x), (2, vi z), (3, .ref o)] [.ref q9]
    refine V.astore C (lc2 := [(4, .ref q9), (0, .ref (ad 0)), (1, vi x), (2, vi z), (3, .ref o)]) dL_isCovered_20 (by decide) rfl ?_
    refine V.iconst C dL_isCovered_22 ?_
    rw [hQ]
    exact V.iret C dL_isCovered_23 (by decide) (by decide) (⟨ri hk.symm, _, M2, rfl, fun e9 => n10w hk e9, fun _ => hc2⟩)
  · skip
    obtain ⟨hk, rfl, M2, hw2, hc2⟩ := r1
    rw [hw2]
    show V D 5 A p l e (rmL 9 6 36) s m args below meth c Q 6 36 ([(o, .inl (cy 3, 1, .inr (.inl f)))] ++ cl cy (sa 100) ad n M2) 8 [(0, .ref (ad 0)), (1, vi x), (2, vi z), (3, .ref o)] [vi (bI (covd (q x.toNat) z)), vi 0, .ref o]
    refine V.if_eqB C 15 dL_isCovered_8 (by decide) (fun h8 => ?_) (fun h8 => ?_)
    · skip
      refine V.lconst C (v := 0) dL_isCovered_15 rfl ?_
      show V D 5 A p l e (rmL 9 6 36) s m args below meth c Q 6 36 ([(o, .inl (cy 3, 1, .inr (.inl f)))] ++ cl cy (sa 100) ad n M2) 16 [(0, .ref (ad 0)), (1, vi x), (2, vi z), (3, .ref o)] [.long 0, vi 0, .ref o]
      refine V.last C (ws2 := [(o, .inl (cy 3, 1, .inr (.inl (vp_updL f (0 : Int).toNat 0))))] ++ cl cy (sa 100) ad n M2) 0 rfl (by decide) (by decide) (by decide) dL_isCovered_16 rfl ?_
      refine V.goto C 24 dL_isCovered_17 (by decide) ?_
      refine V.iconst C dL_isCovered_24 ?_
      rw [hQ]
      exact V.iret C dL_isCovered_25 (by decide) (by decide) (⟨ri hk.symm, _, M2, rfl, fun _ => ⟨by rw [updL_0, L64, h8]; rfl, hc2⟩, fun e9 => absurd hk e9⟩)
    · skip
      refine V.lconst C (v := 1) dL_isCovered_11 rfl ?_
      show V D 5 A p l e (rmL 9 6 36) s m args below meth c Q 6 36 ([(o, .inl (cy 3, 1, .inr (.inl f)))] ++ cl cy (sa 100) ad n M2) 12 [(0, .ref (ad 0)), (1, vi x), (2, vi z), (3, .ref o)] [.long 1, vi 0, .ref o]
      refine V.goto C 16 dL_isCovered_12 (by decide) ?_
      refine V.last C (ws2 := [(o, .inl (cy 3, 1, .inr (.inl (vp_updL f (0 : Int).toNat 1))))] ++ cl cy (sa 100) ad n M2) 0 rfl (by decide) (by decide) (by decide) dL_isCovered_16 rfl ?_
      refine V.goto C 24 dL_isCovered_17 (by decide) ?_
      refine V.iconst C dL_isCovered_24 ?_
      rw [hQ]
      exact V.iret C dL_isCovered_25 (by decide) (by decide) (⟨ri hk.symm, _, M2, rfl, fun _ => ⟨by rw [updL_0, L64, h8]; rfl, hc2⟩, fun e9 => absurd hk e9⟩)
set_option maxHeartbeats 4000000 in
set_option maxRecDepth 100000 in
theorem l_lasts (l : Launch) (D : va_G) (cy : Nat → ClassId) (sa : Nat → Addr) (hfl : l.stackTraces = false) (o : Nat) (f : Nat → Int64) (ad : Nat → Nat) (n : Nat) (M : Nat → Int → Int) (h : Int → Bool) (td : Int) (q : Nat → Nat → Int) (rq nd : Nat → Nat) (hci : CI h td n q rq nd M) (x : Int) (hx : inR x) : CtX l D cy sa yL_lasts cL_lasts 4 (some .int) [(0, 9, 12, 13), (0, 9, 15, 59)] 9 6 36 (wx cy sa o f ad n M) [.ref (ad 0), vi x, .ref o] (fun v ws2 => v = some (vi (kLasts n q x)) ∧ ∃ f2 M2, ws2 = wx cy sa o f2 ad n M2 ∧ (kLasts n q x = 0 → f2 0 = R64 (q x.toNat 9 + q x.toNat 4 - td) ∧ CI h td n q rq nd M2) ∧ (kLasts n q x ≠ 0 → CI h td n q rq nd M2)) no_x := by
  refine CtX.of (own := RL) (lc := [(0, .ref (ad 0)), (1, vi x), (2, .ref o)]) (by decide +kernel) hfl (Nat.le_of_ble_eq_true rfl) rfl rfl ?_
  intro p e s m args below meth c A C hex hnm
  generalize hQ : vx_MQ below (Qo D (fun v ws2 => v = some (vi (kLasts n q x)) ∧ ∃ f2 M2, ws2 = wx cy sa o f2 ad n M2 ∧ (kLasts n q x = 0 → f2 0 = R64 (q x.toNat 9 + q x.toNat 4 - td) ∧ CI h td n q rq nd M2) ∧ (kLasts n q x ≠ 0 → CI h td n q rq nd M2)) A) (Xo D no_x A) args s 6 36 A = Q
  replace hQ := hQ.symm
  refine V.aload_n C dL_lasts_0 2 rfl ?_
  refine V.iconst C dL_lasts_1 ?_
  refine V.aload_n C dL_lasts_2 0 rfl ?_
  refine V.iload_n C dL_lasts_3 1 rfl ?_
  refine V.callVc C (wr := [(o, .inl (cy 3, 1, .inr (.inl f)))]) (As := [vi x]) (st := [vi 0, .ref o]) kV_L_76 (c_lasts l D cy sa hfl ad n M h td q rq nd hci x hx) 0 cl_0 rfl rfl rfl (Nat.le_of_ble_eq_true rfl) ⟨by decide, by decide⟩ ⟨by decide, by decide⟩ dL_lasts_4 (fun E w1 hx => ?_) (fun v1 w1 r1 => ?_)
  · skip
    obtain ⟨hE, M2, hw2, hc2⟩ := hx
    rw [hw2]
    rcases hE with ⟨rfl, hk⟩ | ⟨rfl, hk⟩
    · skip
      refine VX.catch C (name := xIO) hex [] ⟨0, 9, 12, 13⟩ [⟨0, 9, 15, 59⟩] rfl (fun _ h9 => nomatch h9) (by decide) (by decide) cl_L_13 (by decide) (fun q9 => ?_)
      show V D 4 A p l e (rmL 9 6 36) s m args below meth c Q 6 36 ([(o, .inl (cy 3, 1, .inr (.inl f)))] ++ cl cy (sa 100) ad n M2) 12 [(0, .ref (ad 0)), (1, vi x), (2, .ref o)] [.ref q9]
      refine V.astore_n C (lc2 := [(3, .ref q9), (0, .ref (ad 0)), (1, vi x), (2, .ref o)]) dL_lasts_12 (by decide) rfl ?_
      refine V.iconst C dL_lasts_13 ?_
      rw [hQ]
      exact V.iret C dL_lasts_14 (by decide) (by decide) (⟨ri hk.symm, _, M2, rfl, fun e9 => n10w hk e9, fun _ => hc2⟩)
    · skip
      refine VX.catch C (name := xNS) hex [⟨0, 9, 12, 13⟩] ⟨0, 9, 15, 59⟩ [] rfl (List.forall_mem_singleton.mpr ⟨xIO, by decide, cl_L_13, by decide⟩) (by decide) (by decide) cl_L_59 (by decide) (fun q9 => ?_)
      show V D 4 A p l e (rmL 9 6 36) s m args below meth c Q 6 36 ([(o, .inl (cy 3, 1, .inr (.inl f)))] ++ cl cy (sa 100) ad n M2) 15 [(0, .ref (ad 0)), (1, vi x), (2, .ref o)] [.ref q9]
      refine V.astore_n C (lc2 := [(3, .ref q9), (0, .ref (ad 0)), (1, vi x), (2, .ref o)]) dL_lasts_15 (by decide) rfl ?_
      refine V.iconst C dL_lasts_16 ?_
      rw [hQ]
      exact V.iret C dL_lasts_17 (by decide) (by decide) (⟨ri hk.symm, _, M2, rfl, fun e9 => n20w hk e9, fun _ => hc2⟩)
  · skip
    obtain ⟨hk, rfl, M2, hw2, hc2⟩ := r1
    rw [hw2]
    show V D 4 A p l e (rmL 9 6 36) s m args below meth c Q 6 36 ([(o, .inl (cy 3, 1, .inr (.inl f)))] ++ cl cy (sa 100) ad n M2) 7 [(0, .ref (ad 0)), (1, vi x), (2, .ref o)] [vi (q x.toNat 9 + q x.toNat 4 - td), vi 0, .ref o]
    refine V.i2l C dL_lasts_7 ?_
    refine V.last C (ws2 := [(o, .inl (cy 3, 1, .inr (.inl (vp_updL f (0 : Int).toNat ((zI (q x.toNat 9 + q x.toNat 4 - td)).toInt64)))))] ++ cl cy (sa 100) ad n M2) 0 rfl (by decide) (by decide) (by decide) dL_lasts_8 rfl ?_
    refine V.goto C 18 dL_lasts_9 (by decide) ?_
    refine V.iconst C dL_lasts_18 ?_
    rw [hQ]
    exact V.iret C dL_lasts_19 (by decide) (by decide) (⟨ri hk.symm, _, M2, rfl, fun _ => ⟨updL_0, hc2⟩, fun e9 => absurd hk e9⟩)
set_option maxHeartbeats 4000000 in
set_option maxRecDepth 100000 in
theorem l_load (l : Launch) (D : va_G) (cy : Nat → ClassId) (sa : Nat → Addr) (hfl : l.stackTraces = false) (o : Nat) (f : Nat → Int64) (ad : Nat → Nat) (n : Nat) (M : Nat → Int → Int) (h : Int → Bool) (td : Int) (q : Nat → Nat → Int) (rq nd : Nat → Nat) (hci : CI h td n q rq nd M) (x : Int) (hx : inR x) : CtX l D cy sa yL_load cL_load 4 (some .int) [(0, 9, 12, 13)] 9 6 36 (wx cy sa o f ad n M) [.ref (ad 0), vi x, .ref o] (fun v ws2 => v = some (vi (kDay x)) ∧ ∃ f2 M2, ws2 = wx cy sa o f2 ad n M2 ∧ (kDay x = 0 → f2 0 = R64 (efs h q n x) ∧ CI h td n q rq nd M2) ∧ (kDay x ≠ 0 → CI h td n q rq nd M2)) no_x := by
  refine CtX.of (own := RL) (lc := [(0, .ref (ad 0)), (1, vi x), (2, .ref o)]) (by decide +kernel) hfl (Nat.le_of_ble_eq_true rfl) rfl rfl ?_
  intro p e s m args below meth c A C hex hnm
  generalize hQ : vx_MQ below (Qo D (fun v ws2 => v = some (vi (kDay x)) ∧ ∃ f2 M2, ws2 = wx cy sa o f2 ad n M2 ∧ (kDay x = 0 → f2 0 = R64 (efs h q n x) ∧ CI h td n q rq nd M2) ∧ (kDay x ≠ 0 → CI h td n q rq nd M2)) A) (Xo D no_x A) args s 6 36 A = Q
  replace hQ := hQ.symm
  refine V.aload_n C dL_load_0 2 rfl ?_
  refine V.iconst C dL_load_1 ?_
  refine V.aload_n C dL_load_2 0 rfl ?_
  refine V.iload_n C dL_load_3 1 rfl ?_
  refine V.callVc C (wr := [(o, .inl (cy 3, 1, .inr (.inl f)))]) (As := [vi x]) (st := [vi 0, .ref o]) kV_L_79 (c_load l D cy sa hfl ad n M h td q rq nd hci x hx) 0 cl_0 rfl rfl rfl (Nat.le_of_ble_eq_true rfl) ⟨by decide, by decide⟩ ⟨by decide, by decide⟩ dL_load_4 (fun E w1 hx => ?_) (fun v1 w1 r1 => ?_)
  · skip
    obtain ⟨hE, M2, hw2, hc2⟩ := hx
    rw [hw2]
    obtain ⟨rfl, hk⟩ := hE
    refine VX.catch C (name := xIO) hex [] ⟨0, 9, 12, 13⟩ [] rfl (fun _ h9 => nomatch h9) (by decide) (by decide) cl_L_13 (by decide) (fun q9 => ?_)
    show V D 4 A p l e (rmL 9 6 36) s m args below meth c Q 6 36 ([(o, .inl (cy 3, 1, .inr (.inl f)))] ++ cl cy (sa 100) ad n M2) 12 [(0, .ref (ad 0)), (1, vi x), (2, .ref o)] [.ref q9]
    refine V.astore_n C (lc2 := [(3, .ref q9), (0, .ref (ad 0)), (1, vi x), (2, .ref o)]) dL_load_12 (by decide) rfl ?_
    refine V.iconst C dL_load_13 ?_
    rw [hQ]
    exact V.iret C dL_load_14 (by decide) (by decide) (⟨ri hk.symm, _, M2, rfl, fun e9 => n10w hk e9, fun _ => hc2⟩)
  · skip
    obtain ⟨hk, rfl, M2, hw2, hc2⟩ := r1
    rw [hw2]
    show V D 4 A p l e (rmL 9 6 36) s m args below meth c Q 6 36 ([(o, .inl (cy 3, 1, .inr (.inl f)))] ++ cl cy (sa 100) ad n M2) 7 [(0, .ref (ad 0)), (1, vi x), (2, .ref o)] [vi (efs h q n x), vi 0, .ref o]
    refine V.i2l C dL_load_7 ?_
    refine V.last C (ws2 := [(o, .inl (cy 3, 1, .inr (.inl (vp_updL f (0 : Int).toNat ((zI (efs h q n x)).toInt64)))))] ++ cl cy (sa 100) ad n M2) 0 rfl (by decide) (by decide) (by decide) dL_load_8 rfl ?_
    refine V.goto C 15 dL_load_9 (by decide) ?_
    refine V.iconst C dL_load_15 ?_
    rw [hQ]
    exact V.iret C dL_load_16 (by decide) (by decide) (⟨ri hk.symm, _, M2, rfl, fun _ => ⟨updL_0, hc2⟩, fun e9 => absurd hk e9⟩)
set_option maxHeartbeats 4000000 in
set_option maxRecDepth 100000 in
theorem l_heaviest (l : Launch) (D : va_G) (cy : Nat → ClassId) (sa : Nat → Addr) (hfl : l.stackTraces = false) (o : Nat) (f : Nat → Int64) (ad : Nat → Nat) (n : Nat) (M : Nat → Int → Int) (h : Int → Bool) (td : Int) (q : Nat → Nat → Int) (rq nd : Nat → Nat) (hci : CI h td n q rq nd M) (x : Int) (hx : inR x) (z : Int) (hz : inR z) : CtX l D cy sa yL_heaviest cL_heaviest 5 (some .int) [(0, 10, 13, 13), (0, 10, 17, 22)] 9 6 36 (wx cy sa o f ad n M) [.ref (ad 0), vi x, vi z, .ref o] (fun v ws2 => v = some (vi (kSpan x z)) ∧ ∃ f2 M2, ws2 = wx cy sa o f2 ad n M2 ∧ (kSpan x z = 0 → f2 0 = R64 (hv (efs h q n) x x z) ∧ CI h td n q rq nd M2) ∧ (kSpan x z ≠ 0 → CI h td n q rq nd M2)) no_x := by
  refine CtX.of (own := RL) (lc := [(0, .ref (ad 0)), (1, vi x), (2, vi z), (3, .ref o)]) (by decide +kernel) hfl (Nat.le_of_ble_eq_true rfl) rfl rfl ?_
  intro p e s m args below meth c A C hex hnm
  generalize hQ : vx_MQ below (Qo D (fun v ws2 => v = some (vi (kSpan x z)) ∧ ∃ f2 M2, ws2 = wx cy sa o f2 ad n M2 ∧ (kSpan x z = 0 → f2 0 = R64 (hv (efs h q n) x x z) ∧ CI h td n q rq nd M2) ∧ (kSpan x z ≠ 0 → CI h td n q rq nd M2)) A) (Xo D no_x A) args s 6 36 A = Q
  replace hQ := hQ.symm
  refine V.aload_n C dL_heaviest_0 3 rfl ?_
  refine V.iconst C dL_heaviest_1 ?_
  refine V.aload_n C dL_heaviest_2 0 rfl ?_
  refine V.iload_n C dL_heaviest_3 1 rfl ?_
  refine V.iload_n C dL_heaviest_4 2 rfl ?_
  refine V.callVc C (wr := [(o, .inl (cy 3, 1, .inr (.inl f)))]) (As := [vi x, vi z]) (st := [vi 0, .ref o]) kV_L_82 (c_heaviest l D cy sa hfl ad n M h td q rq nd hci x hx z hz) 0 cl_0 rfl rfl rfl (Nat.le_of_ble_eq_true rfl) ⟨by decide, by decide⟩ ⟨by decide, by decide⟩ dL_heaviest_5 (fun E w1 hx => ?_) (fun v1 w1 r1 => ?_)
  · skip
    obtain ⟨hE, M2, hw2, hc2⟩ := hx
    rw [hw2]
    rcases hE with ⟨rfl, hk⟩ | ⟨rfl, hk⟩
    · skip
      refine VX.catch C (name := xIO) hex [] ⟨0, 10, 13, 13⟩ [⟨0, 10, 17, 22⟩] rfl (fun _ h9 => nomatch h9) (by decide) (by decide) cl_L_13 (by decide) (fun q9 => ?_)
      show V D 5 A p l e (rmL 9 6 36) s m args below meth c Q 6 36 ([(o, .inl (cy 3, 1, .inr (.inl f)))] ++ cl cy (sa 100) ad n M2) 13 [(0, .ref (ad 0)), (1, vi x), (2, vi z), (3, .ref o)] [.ref q9]
      refine V.astore C (lc2 := [(4, .ref q9), (0, .ref (ad 0)), (1, vi x), (2, vi z), (3, .ref o)]) dL_heaviest_13 (by decide) rfl ?_
      refine V.iconst C dL_heaviest_15 ?_
      rw [hQ]
      exact V.iret C dL_heaviest_16 (by decide) (by decide) (⟨ri hk.symm, _, M2, rfl, fun e9 => n10w hk e9, fun _ => hc2⟩)
    · skip
      refine VX.catch C (name := xIA) hex [⟨0, 10, 13, 13⟩] ⟨0, 10, 17, 22⟩ [] rfl (List.forall_mem_singleton.mpr ⟨xIO, by decide, cl_L_13, by decide⟩) (by decide) (by decide) cl_L_22 (by decide) (fun q9 => ?_)
      show V D 5 A p l e (rmL 9 6 36) s m args below meth c Q 6 36 ([(o, .inl (cy 3, 1, .inr (.inl f)))] ++ cl cy (sa 100) ad n M2) 17 [(0, .ref (ad 0)), (1, vi x), (2, vi z), (3, .ref o)] [.ref q9]
      refine V.astore C (lc2 := [(4, .ref q9), (0, .ref (ad 0)), (1, vi x), (2, vi z), (3, .ref o)]) dL_heaviest_17 (by decide) rfl ?_
      refine V.iconst C dL_heaviest_19 ?_
      rw [hQ]
      exact V.iret C dL_heaviest_20 (by decide) (by decide) (⟨ri hk.symm, _, M2, rfl, fun e9 => n20w hk e9, fun _ => hc2⟩)
  · skip
    obtain ⟨hk, rfl, M2, hw2, hc2⟩ := r1
    rw [hw2]
    show V D 5 A p l e (rmL 9 6 36) s m args below meth c Q 6 36 ([(o, .inl (cy 3, 1, .inr (.inl f)))] ++ cl cy (sa 100) ad n M2) 8 [(0, .ref (ad 0)), (1, vi x), (2, vi z), (3, .ref o)] [vi (hv (efs h q n) x x z), vi 0, .ref o]
    refine V.i2l C dL_heaviest_8 ?_
    refine V.last C (ws2 := [(o, .inl (cy 3, 1, .inr (.inl (vp_updL f (0 : Int).toNat ((zI (hv (efs h q n) x x z)).toInt64)))))] ++ cl cy (sa 100) ad n M2) 0 rfl (by decide) (by decide) (by decide) dL_heaviest_9 rfl ?_
    refine V.goto C 21 dL_heaviest_10 (by decide) ?_
    refine V.iconst C dL_heaviest_21 ?_
    rw [hQ]
    exact V.iret C dL_heaviest_22 (by decide) (by decide) (⟨ri hk.symm, _, M2, rfl, fun _ => ⟨updL_0, hc2⟩, fun e9 => absurd hk e9⟩)
set_option maxHeartbeats 4000000 in
set_option maxRecDepth 100000 in
theorem l_level (l : Launch) (D : va_G) (cy : Nat → ClassId) (sa : Nat → Addr) (hfl : l.stackTraces = false) (o : Nat) (f : Nat → Int64) (ad : Nat → Nat) (n : Nat) (M : Nat → Int → Int) (h : Int → Bool) (td : Int) (q : Nat → Nat → Int) (rq nd : Nat → Nat) (hci : CI h td n q rq nd M) (x : Int) (hx : inR x) (z : Int) (hz : inR z) (cap : Int) (hcap : inR cap) : CtX l D cy sa yL_level cL_level 6 (some .int) [(0, 12, 15, 13), (0, 12, 19, 22)] 9 6 36 (wx cy sa o f ad n M) [.ref (ad 0), vi x, vi z, vi cap, .ref o] (fun v ws2 => v = some (vi (kLevel x z cap)) ∧ ∃ f2 M2, ws2 = wx cy sa o f2 ad n M2 ∧ (kLevel x z cap = 0 → f2 0 = R64 ((lvl h q n cap x z).2) ∧ CI h td n q rq nd M2) ∧ (kLevel x z cap ≠ 0 → CI h td n q rq nd M2)) no_x := by
  refine CtX.of (own := RL) (lc := [(0, .ref (ad 0)), (1, vi x), (2, vi z), (3, vi cap), (4, .ref o)]) (by decide +kernel) hfl (Nat.le_of_ble_eq_true rfl) rfl rfl ?_
  intro p e s m args below meth c A C hex hnm
  generalize hQ : vx_MQ below (Qo D (fun v ws2 => v = some (vi (kLevel x z cap)) ∧ ∃ f2 M2, ws2 = wx cy sa o f2 ad n M2 ∧ (kLevel x z cap = 0 → f2 0 = R64 ((lvl h q n cap x z).2) ∧ CI h td n q rq nd M2) ∧ (kLevel x z cap ≠ 0 → CI h td n q rq nd M2)) A) (Xo D no_x A) args s 6 36 A = Q
  replace hQ := hQ.symm
  refine V.aload C dL_level_0 4 rfl ?_
  refine V.iconst C dL_level_2 ?_
  refine V.aload_n C dL_level_3 0 rfl ?_
  refine V.iload_n C dL_level_4 1 rfl ?_
  refine V.iload_n C dL_level_5 2 rfl ?_
  refine V.iload_n C dL_level_6 3 rfl ?_
  refine V.callVc C (wr := [(o, .inl (cy 3, 1, .inr (.inl f)))]) (As := [vi x, vi z, vi cap]) (st := [vi 0, .ref o]) kV_L_85 (c_level l D cy sa hfl ad n M h td q rq nd hci x hx z hz cap hcap) 0 cl_0 rfl rfl rfl (Nat.le_of_ble_eq_true rfl) ⟨by decide, by decide⟩ ⟨by decide, by decide⟩ dL_level_7 (fun E w1 hx => ?_) (fun v1 w1 r1 => ?_)
  · skip
    obtain ⟨hE, M2, hw2, hc2⟩ := hx
    rw [hw2]
    rcases hE with ⟨rfl, hk⟩ | ⟨rfl, hk⟩
    · skip
      refine VX.catch C (name := xIO) hex [] ⟨0, 12, 15, 13⟩ [⟨0, 12, 19, 22⟩] rfl (fun _ h9 => nomatch h9) (by decide) (by decide) cl_L_13 (by decide) (fun q9 => ?_)
      show V D 6 A p l e (rmL 9 6 36) s m args below meth c Q 6 36 ([(o, .inl (cy 3, 1, .inr (.inl f)))] ++ cl cy (sa 100) ad n M2) 15 [(0, .ref (ad 0)), (1, vi x), (2, vi z), (3, vi cap), (4, .ref o)] [.ref q9]
      refine V.astore C (lc2 := [(5, .ref q9), (0, .ref (ad 0)), (1, vi x), (2, vi z), (3, vi cap), (4, .ref o)]) dL_level_15 (by decide) rfl ?_
      refine V.iconst C dL_level_17 ?_
      rw [hQ]
      exact V.iret C dL_level_18 (by decide) (by decide) (⟨ri hk.symm, _, M2, rfl, fun e9 => n10w hk e9, fun _ => hc2⟩)
    · skip
      refine VX.catch C (name := xIA) hex [⟨0, 12, 15, 13⟩] ⟨0, 12, 19, 22⟩ [] rfl (List.forall_mem_singleton.mpr ⟨xIO, by decide, cl_L_13, by decide⟩) (by decide) (by decide) cl_L_22 (by decide) (fun q9 => ?_)
      show V D 6 A p l e (rmL 9 6 36) s m args below meth c Q 6 36 ([(o, .inl (cy 3, 1, .inr (.inl f)))] ++ cl cy (sa 100) ad n M2) 19 [(0, .ref (ad 0)), (1, vi x), (2, vi z), (3, vi cap), (4, .ref o)] [.ref q9]
      refine V.astore C (lc2 := [(5, .ref q9), (0, .ref (ad 0)), (1, vi x), (2, vi z), (3, vi cap), (4, .ref o)]) dL_level_19 (by decide) rfl ?_
      refine V.iconst C dL_level_21 ?_
      rw [hQ]
      exact V.iret C dL_level_22 (by decide) (by decide) (⟨ri hk.symm, _, M2, rfl, fun e9 => n20w hk e9, fun _ => hc2⟩)
  · skip
    obtain ⟨hk, rfl, M2, hw2, hc2⟩ := r1
    rw [hw2]
    show V D 6 A p l e (rmL 9 6 36) s m args below meth c Q 6 36 ([(o, .inl (cy 3, 1, .inr (.inl f)))] ++ cl cy (sa 100) ad n M2) 10 [(0, .ref (ad 0)), (1, vi x), (2, vi z), (3, vi cap), (4, .ref o)] [vi ((lvl h q n cap x z).2), vi 0, .ref o]
    refine V.i2l C dL_level_10 ?_
    refine V.last C (ws2 := [(o, .inl (cy 3, 1, .inr (.inl (vp_updL f (0 : Int).toNat ((zI ((lvl h q n cap x z).2)).toInt64)))))] ++ cl cy (sa 100) ad n M2) 0 rfl (by decide) (by decide) (by decide) dL_level_11 rfl ?_
    refine V.goto C 23 dL_level_12 (by decide) ?_
    refine V.iconst C dL_level_23 ?_
    rw [hQ]
    exact V.iret C dL_level_24 (by decide) (by decide) (⟨ri hk.symm, _, M2, rfl, fun _ => ⟨updL_0, hc2⟩, fun e9 => absurd hk e9⟩)
set_option maxHeartbeats 4000000 in
set_option maxRecDepth 100000 in
theorem l_levelled (l : Launch) (D : va_G) (cy : Nat → ClassId) (sa : Nat → Addr) (hfl : l.stackTraces = false) (o : Nat) (f : Nat → Int64) (ad : Nat → Nat) (n : Nat) (M : Nat → Int → Int) (h : Int → Bool) (td : Int) (q : Nat → Nat → Int) (rq nd : Nat → Nat) (hci : CI h td n q rq nd M) (x : Int) (hx : inR x) (z : Int) (hz : inR z) (cap : Int) (hcap : inR cap) (d : Int) (hd : inR d) : CtX l D cy sa yL_levelled cL_levelled 7 (some .int) [(0, 14, 17, 13), (0, 14, 21, 22)] 9 6 36 (wx cy sa o f ad n M) [.ref (ad 0), vi x, vi z, vi cap, vi d, .ref o] (fun v ws2 => v = some (vi (kLevelled x z cap d)) ∧ ∃ f2 M2, ws2 = wx cy sa o f2 ad n M2 ∧ (kLevelled x z cap d = 0 → f2 0 = R64 ((lvl h q n cap x z).1 d) ∧ CI h td n q rq nd M2) ∧ (kLevelled x z cap d ≠ 0 → CI h td n q rq nd M2)) no_x := by
  refine CtX.of (own := RL) (lc := [(0, .ref (ad 0)), (1, vi x), (2, vi z), (3, vi cap), (4, vi d), (5, .ref o)]) (by decide +kernel) hfl (Nat.le_of_ble_eq_true rfl) rfl rfl ?_
  intro p e s m args below meth c A C hex hnm
  generalize hQ : vx_MQ below (Qo D (fun v ws2 => v = some (vi (kLevelled x z cap d)) ∧ ∃ f2 M2, ws2 = wx cy sa o f2 ad n M2 ∧ (kLevelled x z cap d = 0 → f2 0 = R64 ((lvl h q n cap x z).1 d) ∧ CI h td n q rq nd M2) ∧ (kLevelled x z cap d ≠ 0 → CI h td n q rq nd M2)) A) (Xo D no_x A) args s 6 36 A = Q
  replace hQ := hQ.symm
  refine V.aload C dL_levelled_0 5 rfl ?_
  refine V.iconst C dL_levelled_2 ?_
  refine V.aload_n C dL_levelled_3 0 rfl ?_
  refine V.iload_n C dL_levelled_4 1 rfl ?_
  refine V.iload_n C dL_levelled_5 2 rfl ?_
  refine V.iload_n C dL_levelled_6 3 rfl ?_
  refine V.iload C dL_levelled_7 4 rfl ?_
  refine V.callVc C (wr := [(o, .inl (cy 3, 1, .inr (.inl f)))]) (As := [vi x, vi z, vi cap, vi d]) (st := [vi 0, .ref o]) kV_L_89 (c_levelled l D cy sa hfl ad n M h td q rq nd hci x hx z hz cap hcap d hd) 0 cl_0 rfl rfl rfl (Nat.le_of_ble_eq_true rfl) ⟨by decide, by decide⟩ ⟨by decide, by decide⟩ dL_levelled_9 (fun E w1 hx => ?_) (fun v1 w1 r1 => ?_)
  · skip
    obtain ⟨hE, M2, hw2, hc2⟩ := hx
    rw [hw2]
    rcases hE with ⟨rfl, hk⟩ | ⟨rfl, hk⟩
    · skip
      refine VX.catch C (name := xIO) hex [] ⟨0, 14, 17, 13⟩ [⟨0, 14, 21, 22⟩] rfl (fun _ h9 => nomatch h9) (by decide) (by decide) cl_L_13 (by decide) (fun q9 => ?_)
      show V D 7 A p l e (rmL 9 6 36) s m args below meth c Q 6 36 ([(o, .inl (cy 3, 1, .inr (.inl f)))] ++ cl cy (sa 100) ad n M2) 17 [(0, .ref (ad 0)), (1, vi x), (2, vi z), (3, vi cap), (4, vi d), (5, .ref o)] [.ref q9]
      refine V.astore C (lc2 := [(6, .ref q9), (0, .ref (ad 0)), (1, vi x), (2, vi z), (3, vi cap), (4, vi d), (5, .ref o)]) dL_levelled_17 (by decide) rfl ?_
      refine V.iconst C dL_levelled_19 ?_
      rw [hQ]
      exact V.iret C dL_levelled_20 (by decide) (by decide) (⟨ri hk.symm, _, M2, rfl, fun e9 => n10w hk e9, fun _ => hc2⟩)
    · skip
      refine VX.catch C (name := xIA) hex [⟨0, 14, 17, 13⟩] ⟨0, 14, 21, 22⟩ [] rfl (List.forall_mem_singleton.mpr ⟨xIO, by decide, cl_L_13, by decide⟩) (by decide) (by decide) cl_L_22 (by decide) (fun q9 => ?_)
      show V D 7 A p l e (rmL 9 6 36) s m args below meth c Q 6 36 ([(o, .inl (cy 3, 1, .inr (.inl f)))] ++ cl cy (sa 100) ad n M2) 21 [(0, .ref (ad 0)), (1, vi x), (2, vi z), (3, vi cap), (4, vi d), (5, .ref o)] [.ref q9]
      refine V.astore C (lc2 := [(6, .ref q9), (0, .ref (ad 0)), (1, vi x), (2, vi z), (3, vi cap), (4, vi d), (5, .ref o)]) dL_levelled_21 (by decide) rfl ?_
      refine V.iconst C dL_levelled_23 ?_
      rw [hQ]
      exact V.iret C dL_levelled_24 (by decide) (by decide) (⟨ri hk.symm, _, M2, rfl, fun e9 => n20w hk e9, fun _ => hc2⟩)
  · skip
    obtain ⟨hk, rfl, M2, hw2, hc2⟩ := r1
    rw [hw2]
    show V D 7 A p l e (rmL 9 6 36) s m args below meth c Q 6 36 ([(o, .inl (cy 3, 1, .inr (.inl f)))] ++ cl cy (sa 100) ad n M2) 12 [(0, .ref (ad 0)), (1, vi x), (2, vi z), (3, vi cap), (4, vi d), (5, .ref o)] [vi ((lvl h q n cap x z).1 d), vi 0, .ref o]
    refine V.i2l C dL_levelled_12 ?_
    refine V.last C (ws2 := [(o, .inl (cy 3, 1, .inr (.inl (vp_updL f (0 : Int).toNat ((zI ((lvl h q n cap x z).1 d)).toInt64)))))] ++ cl cy (sa 100) ad n M2) 0 rfl (by decide) (by decide) (by decide) dL_levelled_13 rfl ?_
    refine V.goto C 25 dL_levelled_14 (by decide) ?_
    refine V.iconst C dL_levelled_25 ?_
    rw [hQ]
    exact V.iret C dL_levelled_26 (by decide) (by decide) (⟨ri hk.symm, _, M2, rfl, fun _ => ⟨updL_0, hc2⟩, fun e9 => absurd hk e9⟩)
