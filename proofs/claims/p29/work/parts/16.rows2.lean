/-! further rows: lists' arrays, casts, new objects and arrays -/
section ROWS2
variable {p : Program} {l : Launch} {e : Env} {R : Room} {s : State} {m : MethodId} {args : Array Value} {below : List Frame} {meth : Method} {c : Code}
variable {D : va_G} {cy : Nat → ClassId} {sa : Nat → Addr} {own : String} {cc : ByteArray} {nL : Nat} {ret : Option FieldType} {A : Nat → Prop} {Q : State → Prop} {k n : Nat} {ws : va_W} {pc : Nat} {lc : List (Nat × Value)} {st : List Value}
theorem V.anull (C : Cx D cy sa own cc nL ret A p l s m args meth c) (d : decode cc pc = .ok (.aconst_null, 1)) (kk : V D nL A p l e R s m args below meth c Q k n ws (pc + 1) lc (.null :: st)) : V D nL A p l e R s m args below meth c Q k n ws pc lc st := by
  intro H locs ls hP hD hS hl
  exact lv_null C.exec C.bytes d (kk H locs ls hP hD hS hl)
theorem V.aldq (C : Cx D cy sa own cc nL ret A p l s m args meth c) {a N : Nat} {f : Nat → Option Nat} {i : Int} {x : Nat} (q0 : Nat) (he : ws[q0]? = some (a, .inl (cy 2, N, .inr (.inr (.inr (.inr f)))))) (h0 : 0 ≤ i) (h1 : i < (N : Int)) (hN : N ≤ 65536) (hv : f i.toNat = some x) (d : decode cc pc = .ok (.aaload, 1))
    (kk : V D nL A p l e R s m args below meth c Q k n ws (pc + 1) lc (.ref x :: st)) : V D nL A p l e R s m args below meth c Q k n ws pc lc (vi i :: .ref a :: st) := by
  intro H locs ls hP hD hS hl
  have h := kk H locs ls hP hD hS hl
  rw [show Value.ref x = va_rf (f (zI i).toNatClampNeg) by rw [zI_clamp ⟨by omega, by omega⟩, hv]; rfl] at h
  exact va_aldq C.exec C.bytes C.ev.1 hP q0 2 he rfl (zI_in h0 h1 hN) d h
theorem V.cast (C : Cx D cy sa own cc nL ret A p l s m args meth c) {Cn : String} {T : u_T} {N ci index : Nat} {fs : List Value} {a : Nat} (q0 : Nat) (he : ws[q0]? = some (a, .inr (ci, fs))) (hc : vwCl[ci]? = some (Cn, T, N)) (hlink : Cond.classLink own index Cn ∈ GW) (d : decode cc pc = .ok (.checkcast index, 3))
    (kk : V D nL A p l e R s m args below meth c Q k n ws (pc + 3) lc (.ref a :: st)) : V D nL A p l e R s m args below meth c Q k n ws pc lc (.ref a :: st) := by
  intro H locs ls hP hD hS hl
  exact va_castS C.exec C.bytes C.ow (C.hts _ hlink) (C.ev.1.1 ci _ hc).2 (va_recv C.ev.1 hP hc he) d (kk H locs ls hP hD hS hl)
theorem V.objInit (C : Cx D cy sa own cc nL ret A p l s m args meth c) {idx a : Nat} (hlink : Cond.methodLink own idx objectInit ∈ GW) (d : decode cc pc = .ok (.invokespecial idx, 3)) (hf : 1 ≤ R.frames) (hlo : (st.map fun v => v.category).sum + 12 ≤ R.locals)
    (kk : V D nL A p l e R s m args below meth c Q k n ws (pc + 3) lc st) : V D nL A p l e R s m args below meth c Q k n ws pc lc (.ref a :: st) := by
  intro H locs ls hP hD hS hl
  exact W.objInit C.exec C.bytes C.ow (C.hts _ hlink) (C.hts _ im_objectInit) (C.hts _ co_objectInit) rfl (hl.1.trans C.locals.symm) rfl d hf (by show 2 * 0 + _ + 12 ≤ _; omega) (kk H locs ls hP hD hS hl)
theorem V.new (C : Cx D cy sa own cc nL ret A p l s m args meth c) {Cn : String} {T : u_T} {N ci index : Nat} {fs : List Value} (hc : vwCl[ci]? = some (Cn, T, N)) (hin : ∀ w ∈ u_ws Cn T N, w ∈ GW) (ty : Nat → FieldType) (hty : ∀ k, k < N → parseFieldDescriptor (T k).2.2.1 = some (ty k)) (hcl : Cond.classLink own index Cn ∈ GW) (hit : Cond.instantiable Cn N ∈ GW) (hini : Cond.initialized Cn ∈ GW)
    (hfs : ∀ j, j < N → defaultValue (ty j) = vp_V fs j) (h1 : k + 1 ≤ R.cells) (h2 : n + N ≤ R.slots) (d : decode cc pc = .ok (.new index, 3))
    (kk : ∀ q : Nat, V D nL A p l e R s m args below meth c Q (k + 1) (n + N) (ws ++ [(q, .inr (ci, fs))]) (pc + 3) lc (.ref q :: st)) : V D nL A p l e R s m args below meth c Q k n ws pc lc st := by
  intro H locs ls hP hD hS hl
  exact va_new C.exec C.bytes C.hts hin ty hty C.ow (C.hts _ hcl) (C.hts _ hit) (C.hts _ hini) C.ev.1 hP hD hS C.free hc hfs h1 h2 d (fun q H1 hP2 hD2 hS2 => kk q H1 locs ls hP2 hD2 hS2 hl)
theorem ty_same {tys : List (ClassId × FieldType)} {cA cB : ClassId} {ty : FieldType} {cl : List vw_C} (hK : va_K D cl (tys ++ [(cA, ty)]) s) (j : Nat) (hj : tys[j]? = some (cB, ty)) : cA = cB := by
  have hl := (List.getElem?_eq_some_iff.mp hj).1
  have h1 := (hK.2 j (cB, ty) (by rw [List.getElem?_append_left hl]; exact hj)).2
  have h2 := (hK.2 tys.length (cA, ty) (by rw [List.getElem?_append_right (Nat.le_refl _), Nat.sub_self]; rfl)).2
  cases ty with
  | object o =>
    obtain ⟨-, -, -, -, -, e1⟩ := h1
    obtain ⟨-, -, -, -, -, e2⟩ := h2
    exact Option.some.inj (e2.symm.trans e1)
  | _ => exact Option.some.inj (h2.symm.trans h1)
theorem V.newI (C : Cx D cy sa own cc nL ret A p l s m args meth c) {z : Int} (N : Nat) (hz : z = (N : Int)) (hN : N ≤ 65536) (h1 : k + 1 ≤ R.cells) (h2 : n + N ≤ R.slots) (d : decode cc pc = .ok (.newarray .int, 2))
    (kk : ∀ q : Nat, V D nL A p l e R s m args below meth c Q (k + 1) (n + N) (ws ++ [(q, arI cy N (fun _ => 0))]) (pc + 2) lc (.ref q :: st)) : V D nL A p l e R s m args below meth c Q k n ws pc lc (vi z :: st) := by
  intro H locs ls hP hD hS hl
  have hr : inR z := ⟨by omega, by omega⟩
  refine va_newa (atype := .int) (ty := .int) (N' := N) (a0 := (N, .inl (fun _ => 0))) C.exec C.bytes (C.hts _ ac_int) rfl C.ev.1 hP hD hS C.free (fun cA => rfl) (by rw [show (0 : Int32) = zI 0 from rfl, zI_lt hr inR_0]; omega) (by rw [zI_clamp hr]; omega) (by show N * 4 ≤ _; omega) h1 h2 d (fun q cA H1 hK hP2 hD2 hS2 => ?_)
  have e9 : cA = cy 0 := ty_same (tys := tyL cy) hK 0 rfl
  subst e9
  exact kk q H1 locs ls hP2 hD2 hS2 hl
theorem V.newZ (C : Cx D cy sa own cc nL ret A p l s m args meth c) {z : Int} (N : Nat) (hz : z = (N : Int)) (hN : N ≤ 65536) (h1 : k + 1 ≤ R.cells) (h2 : n + N ≤ R.slots) (d : decode cc pc = .ok (.newarray .boolean, 2))
    (kk : ∀ q : Nat, V D nL A p l e R s m args below meth c Q (k + 1) (n + N) (ws ++ [(q, arZ cy N (fun _ => 0))]) (pc + 2) lc (.ref q :: st)) : V D nL A p l e R s m args below meth c Q k n ws pc lc (vi z :: st) := by
  intro H locs ls hP hD hS hl
  have hr : inR z := ⟨by omega, by omega⟩
  refine va_newa (atype := .boolean) (ty := .boolean) (N' := N) (a0 := (N, .inl (fun _ => 0))) C.exec C.bytes (C.hts _ ac_boolean) rfl C.ev.1 hP hD hS C.free (fun cA => rfl) (by rw [show (0 : Int32) = zI 0 from rfl, zI_lt hr inR_0]; omega) (by rw [zI_clamp hr]; omega) (by show N * 1 ≤ _; omega) h1 h2 d (fun q cA H1 hK hP2 hD2 hS2 => ?_)
  have e9 : cA = cy 1 := ty_same (tys := tyL cy) hK 1 rfl
  subst e9
  exact kk q H1 locs ls hP2 hD2 hS2 hl
/-- cells in another order -/
theorem va_P.perm {cl : List vw_C} {w1 w2 : va_W} {H : Heap} (hp : w1.Perm w2) (h : va_P D cl w1 H) : va_P D cl w2 H := by
  intro i q hq
  obtain ⟨j, hj⟩ := List.getElem?_of_mem (hp.mem_iff.mpr (List.mem_of_getElem? hq))
  exact h j q hj
theorem va_D.perm {w1 w2 : va_W} (hp : w1.Perm w2) (h : va_D A w1) : va_D A w2 := by
  have nd : ∀ {w : va_W}, (∀ (i j : Nat) (x y : Nat × va_E), w[i]? = some x → w[j]? = some y → x.1 = y.1 → i = j) ↔ (w.map (·.1)).Nodup := by
    intro w
    rw [List.Nodup, List.pairwise_iff_getElem]
    constructor
    · intro h i j hi hj hij e
      have hi2 : i < w.length := by simpa using hi
      have hj2 : j < w.length := by simpa using hj
      have := h i j w[i] w[j] (List.getElem?_eq_getElem hi2) (List.getElem?_eq_getElem hj2) (by simpa using e)
      omega
    · intro h i j x y hi hj e
      obtain ⟨hi2, rfl⟩ := List.getElem?_eq_some_iff.mp hi
      obtain ⟨hj2, rfl⟩ := List.getElem?_eq_some_iff.mp hj
      rcases Nat.lt_trichotomy i j with q | q | q
      · exact absurd (by rw [List.getElem_map, List.getElem_map]; exact e) (h i j (by simpa using hi2) (by simpa using hj2) q)
      · exact q
      · exact absurd (by rw [List.getElem_map, List.getElem_map]; exact e.symm) (h j i (by simpa using hj2) (by simpa using hi2) q)
  refine ⟨nd.mpr ((hp.map _).nodup_iff.mp (nd.mp h.1)), fun i q hq => ?_⟩
  obtain ⟨j, hj⟩ := List.getElem?_of_mem (hp.mem_iff.mpr (List.mem_of_getElem? hq))
  exact h.2 j q hj
theorem V.perm {ws2 : va_W} (hp : ws.Perm ws2) (kk : V D nL A p l e R s m args below meth c Q k n ws2 pc lc st) : V D nL A p l e R s m args below meth c Q k n ws pc lc st := fun H locs ls hP hD hS hl => kk H locs ls (hP.perm hp) (hD.perm hp) hS hl
end ROWS2
theorem V.alen {p : Program} {l : Launch} {e : Env} {R : Room} {s : State} {m : MethodId} {args : Array Value} {below : List Frame} {meth : Method} {c : Code} {D : va_G} {cy : Nat → ClassId} {sa : Nat → Addr} {own : String} {cc : ByteArray} {nL : Nat} {ret : Option FieldType} {A : Nat → Prop} {Q : State → Prop} {k n : Nat} {ws : va_W} {pc : Nat} {lc : List (Nat × Value)} {st : List Value}
    (C : Cx D cy sa own cc nL ret A p l s m args meth c) {a : Nat} {x : vp_A} {cA : ClassId} {ty : FieldType} {z : Int} (q0 t0 : Nat) (he : ws[q0]? = some (a, .inl (cA, x))) (ht : (tyL cy)[t0]? = some (cA, ty)) (hz : Int32.ofNat x.1 = zI z) (d : decode cc pc = .ok (.arraylength, 1))
    (kk : V D nL A p l e R s m args below meth c Q k n ws (pc + 1) lc (vi z :: st)) : V D nL A p l e R s m args below meth c Q k n ws pc lc (.ref a :: st) := by
  intro H locs ls hP hD hS hl
  exact va_alen C.exec C.bytes C.ev.1 hP q0 t0 he ht hz d (kk H locs ls hP hD hS hl)
