/-! the law's loop -/
theorem and31 (x : Int32) : ∃ z : Int, (0 ≤ z ∧ z ≤ 31) ∧ x &&& zI 31 = zI z := by
  refine ⟨((x.toBitVec &&& 31#32).toNat : Int), ⟨by omega, ?_⟩, ?_⟩
  · have : (x.toBitVec &&& 31#32).toNat ≤ 31 := by rw [BitVec.toNat_and]; exact Nat.and_le_right
    omega
  · rw [zI_nat]
    apply Int32.toBitVec_inj.1
    show x.toBitVec &&& 31#32 = BitVec.ofNat 32 (x.toBitVec &&& 31#32).toNat
    rw [BitVec.ofNat_toNat, BitVec.setWidth_eq]
set_option maxHeartbeats 4000000 in
set_option maxRecDepth 100000 in
theorem law_loop {p : Program} {l : Launch} {e : Env} {s : State} {m : MethodId} {args : Array Value} {below : List Frame} {meth : Method} {c : Code} {D : va_G} {cy : Nat → ClassId} {sa : Nat → Addr} {A : Nat → Prop} {Q : State → Prop} (hfl : l.stackTraces = false) (C : Cx D cy sa RL cL_law 7 (some .boolean) A p l s m args meth c) {b L : Nat} {xs : Nat → Int32} (hX : va_X b L xs s s.heap) (hbl : b < s.heap.size) (hbA : ¬ A b) (hL : L ≤ 3584) {o a1 a2 : Nat} (kend : ∀ (k2 n2 : Nat) (i : Int), k2 ≤ room_1.cells → n2 ≤ room_1.slots → LV D cy sa A p l e s m args below meth c Q b o a1 a2 k2 n2 1763 [(4, vi i)] []) : ∀ (fz : Nat) (k n : Nat) (i : Int), 0 ≤ i → i ≤ (L : Int) → 7 * (k : Int) ≤ 700 + 20 * i → 7 * (n : Int) ≤ 140000 + 1000 * i → ((L : Int) - i).toNat < fz → LV D cy sa A p l e s m args below meth c Q b o a1 a2 k n 23 [(4, vi i)] [] := by
  intro fz
  induction fz with
  | zero => intro k n i _ _ _ _ hf; exact absurd hf (Nat.not_lt_zero _)
  | succ fz ih =>
    intro k n i i0 i1 hk hn hf
    have hcc : room_1.cells = 601024 := rfl
    have hss : room_1.slots = 7293034 := rfl
    intro f adc adm nr Mc Mm h td q rq nd ha1 ha9 hci hmi hcl
    show V D 7 A p l e room_1 s m args below meth c Q k n (ml cy adm Mm ++ wx cy sa o f adc nr Mc) 23 [(4, vi i), (0, .ref b), (1, .ref a1), (2, .ref a2), (3, .ref o)] []
    refine V.iload C dL_law_23 0 rfl ?_
    refine V.aload_n C dL_law_25 1 rfl ?_
    refine V.slen9 C hX hbl hbA dL_law_26 ?_
    refine V.bipush C dL_law_27 (by decide) ?_
    refine V.isub C dL_law_29 ?_
    refine V.icmp_gt C 1763 dL_law_30 (by decide) ⟨by omega, by omega⟩ ⟨by omega, by omega⟩ (fun h30 => ?_) (fun h30 => ?_)
    · exact kend k n i (by omega) (by omega) f adc adm nr Mc Mm h td q rq nd ha1 ha9 hci hmi hcl
    · refine V.aload_n C dL_law_33 1 rfl ?_
      refine V.iload C dL_law_34 0 rfl ?_
      refine V.sld C hX hbl hbA (by omega) (by omega) (by omega) dL_law_36 ?_
      refine V.bipush C dL_law_37 (by decide) ?_
      obtain ⟨z, ⟨z0, z1⟩, hz⟩ := and31 (xs i.toNat)
      refine V.iand C (z := z) dL_law_39 (by rw [zI_of]; exact hz) ?_
      have back : ∀ k2 n2 : Nat, k2 ≤ k + 20 → n2 ≤ n + 1000 → LV D cy sa A p l e s m args below meth c Q b o a1 a2 k2 n2 1757 [(4, vi i)] [] := by
        intro k2 n2 hk2 hn2 f adc adm nr Mc Mm h td q rq nd ha1 ha9 hci hmi hcl
        refine V.iinc C (lc2 := [(4, vi (i + 7)), (0, .ref b), (1, .ref a1), (2, .ref a2), (3, .ref o)]) dL_law_1757 0 rfl (by decide) rfl ?_
        refine V.goto C 23 dL_law_1760 (by decide) ?_
        exact ih k2 n2 (i + 7) (by omega) (by omega) (by omega) (by omega) (by omega) f adc adm nr Mc Mm h td q rq nd ha1 ha9 hci hmi hcl
      have hk9 : k + 20 ≤ room_1.cells := by omega
      have hn9 : n + 1000 ≤ room_1.slots := by omega
      have i7 : i + 7 ≤ (L : Int) := by omega
      rcases (show z = 0 ∨ z = 1 ∨ z = 2 ∨ z = 3 ∨ z = 4 ∨ z = 5 ∨ z = 6 ∨ z = 7 ∨ z = 8 ∨ z = 9 ∨ z = 10 ∨ z = 11 ∨ z = 12 ∨ z = 13 ∨ z = 14 ∨ z = 15 ∨ z = 16 ∨ z = 17 ∨ z = 18 ∨ z = 19 ∨ z = 20 ∨ z = 21 ∨ z = 22 ∨ z = 23 ∨ z = 24 ∨ z = 25 ∨ 26 ≤ z by omega) with rfl | rfl | rfl | rfl | rfl | rfl | rfl | rfl | rfl | rfl | rfl | rfl | rfl | rfl | rfl | rfl | rfl | rfl | rfl | rfl | rfl | rfl | rfl | rfl | rfl | rfl | g
      · refine V.table C 160 dL_law_40 ⟨by decide, by decide⟩ 120 rfl (by decide) ?_
        exact law_c0 hfl C hX hbl hbA hL hk9 hn9 i0 i7 back f adc adm nr Mc Mm h td q rq nd ha1 ha9 hci hmi hcl
      · refine V.table C 223 dL_law_40 ⟨by decide, by decide⟩ 183 rfl (by decide) ?_
        exact law_c1 hfl C hX hbl hbA hL hk9 hn9 i0 i7 back f adc adm nr Mc Mm h td q rq nd ha1 ha9 hci hmi hcl
      · refine V.table C 286 dL_law_40 ⟨by decide, by decide⟩ 246 rfl (by decide) ?_
        exact law_c2 hfl C hX hbl hbA hL hk9 hn9 i0 i7 back f adc adm nr Mc Mm h td q rq nd ha1 ha9 hci hmi hcl
      · refine V.table C 354 dL_law_40 ⟨by decide, by decide⟩ 314 rfl (by decide) ?_
        exact law_c3 hfl C hX hbl hbA hL hk9 hn9 i0 i7 back f adc adm nr Mc Mm h td q rq nd ha1 ha9 hci hmi hcl
      · refine V.table C 410 dL_law_40 ⟨by decide, by decide⟩ 370 rfl (by decide) ?_
        exact law_c4 hfl C hX hbl hbA hL hk9 hn9 i0 i7 back f adc adm nr Mc Mm h td q rq nd ha1 ha9 hci hmi hcl
      · refine V.table C 423 dL_law_40 ⟨by decide, by decide⟩ 383 rfl (by decide) ?_
        exact law_c5 hfl C hX hbl hbA hL hk9 hn9 i0 i7 back f adc adm nr Mc Mm h td q rq nd ha1 ha9 hci hmi hcl
      · refine V.table C 541 dL_law_40 ⟨by decide, by decide⟩ 501 rfl (by decide) ?_
        exact law_c6 hfl C hX hbl hbA hL hk9 hn9 i0 i7 back f adc adm nr Mc Mm h td q rq nd ha1 ha9 hci hmi hcl
      · refine V.table C 609 dL_law_40 ⟨by decide, by decide⟩ 569 rfl (by decide) ?_
        exact law_c7 hfl C hX hbl hbA hL hk9 hn9 i0 i7 back f adc adm nr Mc Mm h td q rq nd ha1 ha9 hci hmi hcl
      · refine V.table C 684 dL_law_40 ⟨by decide, by decide⟩ 644 rfl (by decide) ?_
        exact law_c8 hfl C hX hbl hbA hL hk9 hn9 i0 i7 back f adc adm nr Mc Mm h td q rq nd ha1 ha9 hci hmi hcl
      · refine V.table C 697 dL_law_40 ⟨by decide, by decide⟩ 657 rfl (by decide) ?_
        exact law_c9 hfl C hX hbl hbA hL hk9 hn9 i0 i7 back f adc adm nr Mc Mm h td q rq nd ha1 ha9 hci hmi hcl
      · refine V.table C 765 dL_law_40 ⟨by decide, by decide⟩ 725 rfl (by decide) ?_
        exact law_c10 hfl C hX hbl hbA hL hk9 hn9 i0 i7 back f adc adm nr Mc Mm h td q rq nd ha1 ha9 hci hmi hcl
      · refine V.table C 821 dL_law_40 ⟨by decide, by decide⟩ 781 rfl (by decide) ?_
        exact law_c11 hfl C hX hbl hbA hL hk9 hn9 i0 i7 back f adc adm nr Mc Mm h td q rq nd ha1 ha9 hci hmi hcl
      · refine V.table C 889 dL_law_40 ⟨by decide, by decide⟩ 849 rfl (by decide) ?_
        exact law_c12 hfl C hX hbl hbA hL hk9 hn9 i0 i7 back f adc adm nr Mc Mm h td q rq nd ha1 ha9 hci hmi hcl
      · refine V.table C 957 dL_law_40 ⟨by decide, by decide⟩ 917 rfl (by decide) ?_
        exact law_c13 hfl C hX hbl hbA hL hk9 hn9 i0 i7 back f adc adm nr Mc Mm h td q rq nd ha1 ha9 hci hmi hcl
      · refine V.table C 1025 dL_law_40 ⟨by decide, by decide⟩ 985 rfl (by decide) ?_
        exact law_c14 hfl C hX hbl hbA hL hk9 hn9 i0 i7 back f adc adm nr Mc Mm h td q rq nd ha1 ha9 hci hmi hcl
      · refine V.table C 1081 dL_law_40 ⟨by decide, by decide⟩ 1041 rfl (by decide) ?_
        exact law_c15 hfl C hX hbl hbA hL hk9 hn9 i0 i7 back f adc adm nr Mc Mm h td q rq nd ha1 ha9 hci hmi hcl
      · refine V.table C 1137 dL_law_40 ⟨by decide, by decide⟩ 1097 rfl (by decide) ?_
        exact law_c16 hfl C hX hbl hbA hL hk9 hn9 i0 i7 back f adc adm nr Mc Mm h td q rq nd ha1 ha9 hci hmi hcl
      · refine V.table C 1193 dL_law_40 ⟨by decide, by decide⟩ 1153 rfl (by decide) ?_
        exact law_c17 hfl C hX hbl hbA hL hk9 hn9 i0 i7 back f adc adm nr Mc Mm h td q rq nd ha1 ha9 hci hmi hcl
      · refine V.table C 1249 dL_law_40 ⟨by decide, by decide⟩ 1209 rfl (by decide) ?_
        exact law_c18 hfl C hX hbl hbA hL hk9 hn9 i0 i7 back f adc adm nr Mc Mm h td q rq nd ha1 ha9 hci hmi hcl
      · refine V.table C 1262 dL_law_40 ⟨by decide, by decide⟩ 1222 rfl (by decide) ?_
        exact law_c19 hfl C hX hbl hbA hL hk9 hn9 i0 i7 back f adc adm nr Mc Mm h td q rq nd ha1 ha9 hci hmi hcl
      · refine V.table C 1330 dL_law_40 ⟨by decide, by decide⟩ 1290 rfl (by decide) ?_
        exact law_c20 hfl C hX hbl hbA hL hk9 hn9 i0 i7 back f adc adm nr Mc Mm h td q rq nd ha1 ha9 hci hmi hcl
      · refine V.table C 1405 dL_law_40 ⟨by decide, by decide⟩ 1365 rfl (by decide) ?_
        exact law_c21 hfl C hX hbl hbA hL hk9 hn9 i0 i7 back f adc adm nr Mc Mm h td q rq nd ha1 ha9 hci hmi hcl
      · refine V.table C 1461 dL_law_40 ⟨by decide, by decide⟩ 1421 rfl (by decide) ?_
        exact law_c22 hfl C hX hbl hbA hL hk9 hn9 i0 i7 back f adc adm nr Mc Mm h td q rq nd ha1 ha9 hci hmi hcl
      · refine V.table C 1517 dL_law_40 ⟨by decide, by decide⟩ 1477 rfl (by decide) ?_
        exact law_c23 hfl C hX hbl hbA hL hk9 hn9 i0 i7 back f adc adm nr Mc Mm h td q rq nd ha1 ha9 hci hmi hcl
      · refine V.table C 1585 dL_law_40 ⟨by decide, by decide⟩ 1545 rfl (by decide) ?_
        exact law_c24 hfl C hX hbl hbA hL hk9 hn9 i0 i7 back f adc adm nr Mc Mm h td q rq nd ha1 ha9 hci hmi hcl
      · refine V.table C 1665 dL_law_40 ⟨by decide, by decide⟩ 1625 rfl (by decide) ?_
        exact law_c25 hfl C hX hbl hbA hL hk9 hn9 i0 i7 back f adc adm nr Mc Mm h td q rq nd ha1 ha9 hci hmi hcl
      · refine V.table C 1757 dL_law_40 ⟨by omega, by omega⟩ 1717 (if_pos (Or.inr (by omega))) (by decide) ?_
        exact back k n (by omega) (by omega) f adc adm nr Mc Mm h td q rq nd ha1 ha9 hci hmi hcl
