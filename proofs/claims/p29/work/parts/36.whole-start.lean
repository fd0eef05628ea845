set_option maxHeartbeats 4000000 in
set_option maxRecDepth 100000 in
theorem law_start {p : Program} {l : Launch} {e : Env} {s : State} {m : MethodId} {args : Array Value} {below : List Frame} {meth : Method} {c : Code} {D : va_G} {cy : Nat → ClassId} {sa : Nat → Addr} {A : Nat → Prop} {Q : State → Prop} (hfl : l.stackTraces = false) (C : Cx D cy sa RL cL_law 11 (some .boolean) A p l s m args meth c) (kend : ∀ (k2 n2 : Nat) (ws : va_W) (lc : List (Nat × Value)), k2 ≤ 600074 → n2 ≤ 7301550 → V D 11 A p l e room_1 s m args below meth c Q k2 n2 ws 579 lc [vi 1]) : V D 11 A p l e room_1 s m args below meth c Q 0 0 ([]) 0 [(0, .ref (sa 101))] [] := by
  refine V.new C (Cn := RX2) (T := TX2) (N := 4) (ci := 3) (fs := [.null, .null, vi 0, .null]) rfl inX2 tyX2 tyX2_ok cl_L_9 it_X2 in_X2 (by decide) (Nat.le_of_ble_eq_true rfl) (Nat.le_of_ble_eq_true rfl) dL_law_0 (fun a1 => ?_)
  show V D 11 A p l e room_1 s m args below meth c Q 1 4 ([(a1, .inr (3, [.null, .null, vi 0, .null]))]) 3 [(0, .ref (sa 101))] [.ref a1]
  refine V.dup C dL_law_3 rfl ?_
  refine V.callI C (As := []) (st := [.ref a1]) (wr := []) kI_L_54 (c_classInit l D cy sa hfl a1) rfl rfl rfl (Nat.le_of_ble_eq_true rfl) ⟨by decide, by decide⟩ ⟨Nat.le_of_ble_eq_true rfl, Nat.le_of_ble_eq_true rfl⟩ dL_law_4 (fun _ _ h => h.elim) (fun v1 w1 r1 => ?_)
  obtain ⟨rfl, adc, Mc, hw1, ha1, hci⟩ := r1
  rw [hw1, List.nil_append]
  show V D 11 A p l e room_1 s m args below meth c Q 7 2890 (cl cy (sa 100) adc 0 Mc) 7 [(0, .ref (sa 101))] [.ref a1]
  refine V.astore_n C (lc2 := [(1, .ref a1), (0, .ref (sa 101))]) dL_law_7 (by decide) rfl ?_
  refine V.iconst C dL_law_8 ?_
  refine V.newI C 1 (by decide) (by decide) (Nat.le_of_ble_eq_true rfl) (Nat.le_of_ble_eq_true rfl) dL_law_9 (fun g => ?_)
  show V D 11 A p l e room_1 s m args below meth c Q 8 2891 (cl cy (sa 100) adc 0 Mc ++ [(g, arI cy 1 (fun _ => 0))]) 11 [(1, .ref a1), (0, .ref (sa 101))] [.ref g]
  refine V.astore_n C (lc2 := [(2, .ref g), (1, .ref a1), (0, .ref (sa 101))]) dL_law_11 (by decide) rfl ?_
  refine V.iconst C dL_law_12 ?_
  refine V.istore_n C (lc2 := [(3, vi 0), (2, .ref g), (1, .ref a1), (0, .ref (sa 101))]) dL_law_13 (by decide) rfl ?_
  refine V.perm (ws2 := [(g, arI cy 1 (fun _ => 0))] ++ cl cy (sa 100) adc 0 Mc) List.perm_append_comm ?_
  refine V.sub (lc := [(3, vi 0), (0, .ref (sa 101)), (1, .ref a1), (2, .ref g)]) [0, 3, 2, 1] rfl ?_
  exact law_loop hfl C (o := a1) (g := g) kend _ 8 2891 0 (by decide) (by decide) (by decide) (by decide) (Nat.lt_succ_self _) (fun _ => 0) adc 0 Mc _ _ _ _ _ ha1 hci LA.zero rfl
/-- YOUR PART: from the entry, for every script of at most 260 ints, the law comes to its end with true -/
theorem whole_start {p : Program} {e : Env} {s : State} {m : MethodId} {below : List Frame} {meth : Method} {c : Code} (l : Launch) (hflags : l.flags = flags0) {b L : Nat} {xs : Nat → Int32} (hL : L ≤ 260) (C0 : lw_At p s m meth c b L xs) : W p l e room_1 s m #[Value.ref b] below meth c s.heap [] 0 0 (lw_Z below #[Value.ref b] s) (entryFrame m ([Value.ref b] : List Value).toArray 11) := by
  obtain ⟨hx, hb, hr, hml, how, hts, hX, hbl, hlk, hg⟩ := C0
  have hfl : l.stackTraces = false := by rw [Launch.stackTraces, hflags]; decide +kernel
  obtain ⟨D, cy, sa, hsa, hE⟩ := ev_start hts hg hL hX hbl
  have C : Cx D cy sa RL cL_law 11 (some .boolean) (fun q => s.heap.size ≤ q) p l s m #[Value.ref b] meth c := ⟨hx, hb, hml, how, fun w hw => hts w (gw_tbl hw), hE, fun _ h => h, hlk, hr, hfl⟩
  have key := law_start (e := e) (below := below) (Q := lw_Z below #[Value.ref b] s) hfl C (fun k n ws lc hk hn => fun H locs ls hP hD hS hl => va_forget hS.2.2 (W.widen hk hn (lw_ret hx hb hr hlk dL_law_579)))
  rw [hsa] at key
  have hl := lv_entry [Value.ref b] (n := 11) (by show 1 ≤ 11; decide)
  rw [lg_entry_eq]
  exact key s.heap [] _ (fun i q h => absurd h (by simp)) ⟨fun i j x y h => absurd h (by simp), fun i q h => absurd h (by simp)⟩ va_S.rf hl
