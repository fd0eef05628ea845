set_option maxHeartbeats 4000000 in
set_option maxRecDepth 100000 in
theorem law_start {p : Program} {l : Launch} {e : Env} {s : State} {m : MethodId} {args : Array Value} {below : List Frame} {meth : Method} {c : Code} {D : va_G} {cy : Nat → ClassId} {sa : Nat → Addr} {A : Nat → Prop} {Q : State → Prop} (hfl : l.stackTraces = false) (C : Cx D cy sa RL cL_law 7 (some .boolean) A p l s m args meth c) {b L : Nat} {xs : Nat → Int32} (hX : va_X b L xs s s.heap) (hbl : b < s.heap.size) (hbA : ¬ A b) (hL : L ≤ 3584) (kend : ∀ (k n : Nat) (ws : va_W) (lc : List (Nat × Value)), k ≤ room_1.cells → n ≤ room_1.slots → V D 7 A p l e room_1 s m args below meth c Q k n ws 1764 lc [vi 1]) : V D 7 A p l e room_1 s m args below meth c Q 0 0 ([]) 0 [(0, .ref b)] [] := by
  refine V.new C (Cn := RX2) (T := TX2) (N := 4) (ci := 3) (fs := [.null, .null, vi 0, .null]) rfl inX2 tyX2 tyX2_ok cl_L_8 it_X2 in_X2 (by decide) (Nat.le_of_ble_eq_true rfl) (Nat.le_of_ble_eq_true rfl) dL_law_0 (fun a1 => ?_)
  show V D 7 A p l e room_1 s m args below meth c Q 1 4 ([(a1, .inr (3, [.null, .null, vi 0, .null]))]) 3 [(0, .ref b)] [.ref a1]
  refine V.dup C dL_law_3 rfl ?_
  refine V.callI C (As := []) (st := [.ref a1]) (wr := []) kI_L_93 (c_classInit l D cy sa hfl a1) rfl rfl rfl (Nat.le_of_ble_eq_true rfl) ⟨by decide, by decide⟩ ⟨Nat.le_of_ble_eq_true rfl, Nat.le_of_ble_eq_true rfl⟩ dL_law_4 (fun _ _ h => h.elim) (fun v1 w1 r1 => ?_)
  obtain ⟨rfl, adc, Mc, hw1, ha1, hci⟩ := r1
  rw [hw1, List.nil_append]
  show V D 7 A p l e room_1 s m args below meth c Q 7 2890 (cl cy (sa 100) adc 0 Mc) 7 [(0, .ref b)] [.ref a1]
  refine V.astore_n C (lc2 := [(1, .ref a1), (0, .ref b)]) dL_law_7 (by decide) rfl ?_
  refine V.new C (Cn := RX3) (T := TX3) (N := 19) (ci := 4) (fs := [vi 0, vi 0, .null, vi 0, .null, .null, .null, .null, .null, .null, .null, .null, .null, .null, .null, .null, .null, .null, vi 0]) rfl inX3 tyX3 tyX3_ok cl_L_94 it_X3 in_X3 (by decide) (Nat.le_of_ble_eq_true rfl) (Nat.le_of_ble_eq_true rfl) dL_law_8 (fun a2 => ?_)
  show V D 7 A p l e room_1 s m args below meth c Q 8 2909 (cl cy (sa 100) adc 0 Mc ++ [(a2, .inr (4, [vi 0, vi 0, .null, vi 0, .null, .null, .null, .null, .null, .null, .null, .null, .null, .null, .null, .null, .null, .null, vi 0]))]) 11 [(1, .ref a1), (0, .ref b)] [.ref a2]
  refine V.dup C dL_law_11 rfl ?_
  refine V.callI C (As := []) (st := [.ref a2]) (wr := cl cy (sa 100) adc 0 Mc) kI_L_96 (c_m_init l D cy sa hfl a2) rfl rfl rfl (Nat.le_of_ble_eq_true rfl) ⟨by decide, by decide⟩ ⟨Nat.le_of_ble_eq_true rfl, Nat.le_of_ble_eq_true rfl⟩ dL_law_12 (fun _ _ h => h.elim) (fun v2 w2 r2 => ?_)
  obtain ⟨rfl, adm, Mm, hw2, ha2, hmi⟩ := r2
  rw [hw2]
  show V D 7 A p l e room_1 s m args below meth c Q 23 16013 (cl cy (sa 100) adc 0 Mc ++ ml cy adm Mm) 15 [(1, .ref a1), (0, .ref b)] [.ref a2]
  refine V.astore_n C (lc2 := [(2, .ref a2), (1, .ref a1), (0, .ref b)]) dL_law_15 (by decide) rfl ?_
  refine V.iconst C dL_law_16 ?_
  refine V.newL C 1 (by decide) (by decide) (Nat.le_of_ble_eq_true rfl) (Nat.le_of_ble_eq_true rfl) dL_law_17 (fun o => ?_)
  show V D 7 A p l e room_1 s m args below meth c Q 24 16014 ((cl cy (sa 100) adc 0 Mc ++ ml cy adm Mm) ++ [(o, .inl (cy 3, 1, .inr (.inl (fun _ => 0))))]) 19 [(2, .ref a2), (1, .ref a1), (0, .ref b)] [.ref o]
  refine V.astore_n C (lc2 := [(3, .ref o), (2, .ref a2), (1, .ref a1), (0, .ref b)]) dL_law_19 (by decide) rfl ?_
  refine V.iconst C dL_law_20 ?_
  refine V.istore C (lc2 := [(4, vi 0), (3, .ref o), (2, .ref a2), (1, .ref a1), (0, .ref b)]) dL_law_21 (by decide) rfl ?_
  refine V.perm (ws2 := ml cy adm Mm ++ wx cy sa o (fun _ => 0) adc 0 Mc) (by rw [List.append_assoc]; exact List.perm_append_comm.trans (List.Perm.of_eq (List.append_assoc _ _ _))) ?_
  refine V.sub (lc := [(4, vi 0), (0, .ref b), (1, .ref a1), (2, .ref a2), (3, .ref o)]) [0, 4, 3, 2, 1] rfl ?_
  exact law_loop hfl C hX hbl hbA hL (o := o) (a1 := a1) (a2 := a2) (fun k2 n2 i hk hn => fun f adc adm nr Mc Mm h td q rq nd _ _ _ _ _ => V.iconst C dL_law_1763 (kend k2 n2 _ _ hk hn)) _ 24 16014 0 (Int.le_refl 0) (Int.natCast_nonneg L) (by decide) (by decide) (Nat.lt_succ_self _) (fun _ => 0) adc adm 0 Mc Mm _ _ _ _ _ ha1 ha2 hci hmi Cls.zero
/-- YOUR PART: from the entry, for every script of at most 3584 ints, the law comes to its end with true -/
theorem whole_start {p : Program} {e : Env} {s : State} {m : MethodId} {below : List Frame} {meth : Method} {c : Code} (l : Launch) (hflags : l.flags = flags0) {b L : Nat} {xs : Nat → Int32} (hL : L ≤ 3584) (C0 : lw_At p s m meth c b L xs) : W p l e room_1 s m #[Value.ref b] below meth c s.heap [] 0 0 (lw_Z below #[Value.ref b] s) (entryFrame m ([Value.ref b] : List Value).toArray 7) := by
  obtain ⟨hx, hb, hr, hml, how, hts, hX, hbl, hlk, hg⟩ := C0
  have hfl : l.stackTraces = false := by rw [Launch.stackTraces, hflags]; decide +kernel
  obtain ⟨D, cy, sa, hE⟩ := ev_start hts hg
  have C : Cx D cy sa RL cL_law 7 (some .boolean) (fun q => s.heap.size ≤ q) p l s m #[Value.ref b] meth c := ⟨hx, hb, hml, how, fun w hw => hts w (gw_tbl hw), hE, fun _ h => h, hlk, hr, hfl⟩
  have key := law_start (e := e) (below := below) (Q := lw_Z below #[Value.ref b] s) hfl C hX hbl (fun h => by omega) hL (fun k n ws lc hk hn => fun H locs ls hP hD hS hl => va_forget hS.2.2 (W.widen hk hn (lw_ret hx hb hr hlk dL_law_1764)))
  have hl := lv_entry [Value.ref b] (n := 7) (by show 1 ≤ 7; decide)
  rw [lg_entry_eq]
  exact key s.heap [] _ (fun i q h => absurd h (by simp)) ⟨fun i j x y h => absurd h (by simp), fun i q h => absurd h (by simp)⟩ va_S.rf hl
