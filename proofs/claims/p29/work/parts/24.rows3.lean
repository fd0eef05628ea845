/-! rows for the list that grows; cells in another order -/
section ROWS3
variable {p : Program} {l : Launch} {e : Env} {R : Room} {s : State} {m : MethodId} {args : Array Value} {below : List Frame} {meth : Method} {c : Code}
variable {D : va_G} {cy : Nat → ClassId} {sa : Nat → Addr} {own : String} {cc : ByteArray} {nL : Nat} {ret : Option FieldType} {A : Nat → Prop} {Q : State → Prop} {k n : Nat} {ws : va_W} {pc : Nat} {lc : List (Nat × Value)} {st : List Value}
theorem V.gets (C : Cx D cy sa RJx4a65c cc nL ret A p l s m args meth c) (d : decode cc pc = .ok (.getstatic 39, 3)) (kk : V D nL A p l e R s m args below meth c Q k n ws (pc + 3) lc (.ref (sa 100) :: st)) : V D nL A p l e R s m args below meth c Q k n ws pc lc st := by
  intro H locs ls hP hD hS hl
  exact va_gets C.exec C.bytes C.ev.2.2.2.2.2.2.1 hS C.ow (C.hts _ fl_Jx4a65c_39) (fun _ h => h) d (kk H locs ls hP hD hS hl)
theorem V.slen (C : Cx D cy sa own cc nL ret A p l s m args meth c) (d : decode cc pc = .ok (.arraylength, 1)) (kk : V D nL A p l e R s m args below meth c Q k n ws (pc + 1) lc (vi 0 :: st)) : V D nL A p l e R s m args below meth c Q k n ws pc lc (.ref (sa 100) :: st) := by
  intro H locs ls hP hD hS hl
  exact va_tlen C.exec C.bytes C.ev.2.2.2.2.2.2.2.1 hS rfl d (kk H locs ls hP hD hS hl)
theorem V.acmpE (C : Cx D cy sa own cc nL ret A p l s m args meth c) {a : Nat} {off : Int} (tgt : Nat) (d : decode cc pc = .ok (.if_acmp .eq off, 3)) (ht : (pc : Int) + off = (tgt : Int)) (kk : V D nL A p l e R s m args below meth c Q k n ws tgt lc st) : V D nL A p l e R s m args below meth c Q k n ws pc lc (.ref a :: .ref a :: st) := by
  intro H locs ls hP hD hS hl
  exact lv_acmp_eq (rx := some a) (ry := some a) C.exec C.bytes d ht (fun _ => kk H locs ls hP hD hS hl) (fun h => absurd rfl h)
theorem V.anew (C : Cx D cy sa own cc nL ret A p l s m args meth c) {idx : Nat} {z : Int} (N : Nat) (hz : z = (N : Int)) (hN : N ≤ 65536) (hl0 : Cond.classLink own idx "java/lang/Object" ∈ GW) (h1 : k + 1 ≤ R.cells) (h2 : n + N ≤ R.slots) (d : decode cc pc = .ok (.anewarray idx, 3))
    (kk : ∀ q : Nat, V D nL A p l e R s m args below meth c Q (k + 1) (n + N) (ws ++ [(q, .inl (cy 2, N, .inr (.inr (.inr (.inr (fun _ => none))))))]) (pc + 3) lc (.ref q :: st)) : V D nL A p l e R s m args below meth c Q k n ws pc lc (vi z :: st) := by
  intro H locs ls hP hD hS hl
  have hr : inR z := ⟨by omega, by omega⟩
  refine va_newq (N' := N) C.exec C.bytes C.ow (C.hts _ hl0) C.ev.2.2.2.2.2.2.2.2.1 C.ev.1 hP hD hS C.free (by rw [show (0 : Int32) = zI 0 from rfl, zI_lt hr inR_0]; omega) (by rw [zI_clamp hr]; omega) (by omega) h1 h2 d (fun q cA H1 hK hP2 hD2 hS2 => ?_)
  have e9 : cA = cy 2 := ty_same (tys := tyL cy) hK 2 rfl
  subst e9
  exact kk q H1 locs ls hP2 hD2 hS2 hl
theorem V.astq (C : Cx D cy sa own cc nL ret A p l s m args meth c) {a N v : Nat} {f : Nat → Option Nat} {i : Int} {vs : List Value} {ws2 : va_W} (q0 qk : Nat) (he : ws[q0]? = some (a, .inl (cy 2, N, .inr (.inr (.inr (.inr f)))))) (hv : ws[qk]? = some (v, .inr (2, vs))) (h0 : 0 ≤ i) (h1 : i < (N : Int)) (hN : N ≤ 65536) (d : decode cc pc = .ok (.aastore, 1))
    (hw : ws.set q0 (a, .inl (cy 2, N, .inr (.inr (.inr (.inr (va_up f i.toNat (some v))))))) = ws2)
    (kk : V D nL A p l e R s m args below meth c Q k n ws2 (pc + 1) lc st) : V D nL A p l e R s m args below meth c Q k n ws pc lc (.ref v :: vi i :: .ref a :: st) := by
  intro H locs ls hP hD hS hl
  subst hw
  refine va_astqO (E := "java/lang/Object") (r := (RX1, TX1, 12)) C.exec C.bytes C.ev.1 hP hD hS q0 2 qk 2 he rfl (C.ev.2.2.2.2.2.1 (RX1, "java/lang/Object") (by decide)) hv rfl (zI_in h0 h1 hN) d (fun H2 locs2 hP2 hD2 hS2 => ?_)
  rw [zI_clamp ⟨by omega, by omega⟩] at hP2 hD2
  exact kk H2 locs2 ls hP2 hD2 hS2 hl
theorem ap_get {α : Type} {wr wc : List α} {i : Nat} {x : α} (h : wc[i]? = some x) : (wr ++ wc)[wr.length + i]? = some x := by
  rw [List.getElem?_append_right (by omega), Nat.add_sub_cancel_left]; exact h
theorem V.callVc {y : MethodName} {ccy : ByteArray} {maxL na lev idx mc ms : Nat} {rt : Option FieldType} {As : List Value} {st0 : List Value} {b : Nat} {wr wc : va_W} {Po : Option Value → va_W → Prop} {Px : String → va_W → Prop} (C : Cx D cy sa own cc nL ret A p l s m args meth c) {Cn : String} (hk : LkV own idx Cn y ccy maxL rt na) (hM : Ct l D cy sa y ccy maxL rt lev mc ms wc (.ref b :: As) Po Px)
    {ci N : Nat} {T : u_T} {fs : List Value} (q0 : Nat) (he : wc[q0]? = some (b, .inr (ci, fs))) (hc : vwCl[ci]? = some (Cn, T, N)) (hs : st0 = As.reverse ++ .ref b :: st) (hn : As.length = na) (hW : (st.map fun v => v.category).sum ≤ 8)
    (hR : lev + 1 ≤ R.frames ∧ 8 + (maxL + 11) + 37 * lev ≤ R.locals) (hf : k + mc ≤ R.cells ∧ n + ms ≤ R.slots) (d : decode cc pc = .ok (.invokevirtual idx, 3))
    (kx : ∀ (E : String) (ws2 : va_W), Px E ws2 → VX D nL A p l e R s m args below meth c Q (k + mc) (n + ms) (wr ++ ws2) pc lc st E)
    (kk : ∀ (v : Option Value) (ws2 : va_W), Po v ws2 → V D nL A p l e R s m args below meth c Q (k + mc) (n + ms) (wr ++ ws2) (pc + 3) lc (v.toList ++ st)) : V D nL A p l e R s m args below meth c Q k n (wr ++ wc) pc lc st0 :=
  V.callV C hk hM rfl (wr.length + q0) (ap_get he) hc hs hn hW hR hf d kx kk
end ROWS3
theorem sf_mod : Cond.sameField "java/util/ArrayList" "java/util/AbstractList" "modCount" "I" ∈ GW := gw1 (i := 75) (by decide +kernel) (by decide +kernel)
