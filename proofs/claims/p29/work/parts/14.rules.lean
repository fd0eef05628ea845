/-! RULES: what a rule's cells say, nominal days, due days -/
def RF (M : Nat → Int → Int) (k : Nat) (q : Nat → Int) : Prop := M k 0 = q 0 ∧ M k 1 = q 1 ∧ M k 2 = q 2 ∧ M k 3 = q 3 ∧ M k 4 = q 4 ∧ M k 5 = q 5 ∧ M k 8 = q 8 ∧ M k 9 = q 9
def PV (q : Nat → Int) : Prop := (0 ≤ q 0 ∧ q 0 ≤ 3) ∧ (q 0 = 0 → 1 ≤ q 1 ∧ q 1 ≤ 60) ∧ (q 0 = 1 → 0 ≤ q 1 ∧ q 1 ≤ 29) ∧ (2 ≤ q 0 → 1 ≤ q 1 ∧ q 1 ≤ 22) ∧ (0 ≤ q 2 ∧ q 2 < 720) ∧ (1 ≤ q 3 ∧ q 3 ≤ 9) ∧ (0 ≤ q 4 ∧ q 4 ≤ 99) ∧ (0 ≤ q 5 ∧ q 5 ≤ 2) ∧ (0 ≤ q 8 ∧ q 8 ≤ 720) ∧ (-1 ≤ q 9 ∧ q 9 < 720)
theorem RF.same {M M1 : Nat → Int → Int} {k : Nat} {q : Nat → Int} (h : RF M k q) (e : M1 k = M k) : RF M1 k q := by unfold RF; rw [e]; exact h
theorem PV.n {q : Nat → Int} (h : PV q) : 0 ≤ q 1 ∧ q 1 ≤ 60 := by
  obtain ⟨a, b, c, d, -⟩ := h
  by_cases e0 : q 0 = 0
  · have := b e0; omega
  · by_cases e1 : q 0 = 1
    · have := c e1; omega
    · have := d (by omega); omega
def nom (h : Int → Bool) (q : Nat → Int) (d : Int) : Bool := decide (q 2 ≤ d) && (if q 0 = 0 then decide ((d - q 2) % q 1 = 0) else if q 0 = 1 then decide (d % 30 = q 1) else if q 0 = 2 then decide (NS h d = q 1) else decide (NE h d = q 1))
def dyS (sh s : Int) : Int := if sh = 1 then 719 - s else s
theorem dyS_1 {s : Int} : dyS 1 s = 719 - s := rfl
theorem dyS_n {sh s : Int} (h : ¬ sh = 1) : dyS sh s = s := if_neg h
def wb (w nm : Int → Bool) (sh : Int) : Nat → Bool
  | 0 => false
  | s + 1 => (wb w nm sh s || nm (dyS sh s)) && !(w (dyS sh s)) && !decide (sh = 2)
def due (w nm : Int → Bool) (sh d : Int) : Bool := w d && (wb w nm sh (dyS sh d).toNat || nm d)
def dueR (h : Int → Bool) (q : Nat → Int) (d : Int) : Bool := due (wk h) (nom h q) (q 5) d
theorem dyS_rng {sh s : Int} (h0 : 0 ≤ s) (h1 : s < 720) : 0 ≤ dyS sh s ∧ dyS sh s < 720 := by
  unfold dyS; split <;> omega
theorem dyS_dyS (sh s : Int) : dyS sh (dyS sh s) = s := by
  unfold dyS; split <;> omega
theorem wb_up {w nm : Int → Bool} {sh s : Int} (h0 : 0 ≤ s) : wb w nm sh (s + 1).toNat = ((wb w nm sh s.toNat || nm (dyS sh s)) && !(w (dyS sh s)) && !decide (sh = 2)) := by
  rw [show (s + 1).toNat = s.toNat + 1 by omega]
  simp only [wb]
  rw [show ((s.toNat : Nat) : Int) = s by omega]
theorem wb_2 {w nm : Int → Bool} : ∀ s, wb w nm 2 s = false
  | 0 => rfl
  | s + 1 => by simp [wb]
theorem due_at {w nm : Int → Bool} {sh s : Int} (h0 : 0 ≤ s) : due w nm sh (dyS sh s) = (w (dyS sh s) && (wb w nm sh s.toNat || nm (dyS sh s))) := by simp only [due, dyS_dyS]
theorem dfill {M1 : Nat → Int → Int} {F G : Int → Int} {k : Nat} {sh s d v : Int} (h : ∀ j, M1 k j = if 0 ≤ j ∧ j < 720 ∧ dyS sh j < s then F j else G j) (h0 : 0 ≤ s) (h1 : s < 720) (hd : d = dyS sh s) (hv : v = F d) : ∀ j, upM M1 k d v k j = if 0 ≤ j ∧ j < 720 ∧ dyS sh j < s + 1 then F j else G j := by
  intro j
  have hr := dyS_rng (sh := sh) h0 h1
  by_cases hj : j = d
  · subst hj
    rw [upM_s, if_pos ⟨by omega, by omega, by rw [hd, dyS_dyS]; omega⟩, hv]
  · rw [upM_n (Or.inr hj), h j]
    have hne : dyS sh j ≠ s := fun e => hj (by rw [hd, ← e, dyS_dyS])
    by_cases hc : 0 ≤ j ∧ j < 720 ∧ dyS sh j < s
    · rw [if_pos hc, if_pos ⟨hc.1, hc.2.1, by omega⟩]
    · rw [if_neg hc, if_neg (fun x => hc ⟨x.1, x.2.1, by omega⟩)]
/-- the first day from a day on; the k-th from a day on -/
def frF (p : Int → Bool) : Nat → Int → Int
  | 0, _ => -1
  | n + 1, a => if p a = true then a else frF p n (a + 1)
def fst (p : Int → Bool) (a : Int) : Int := frF p (720 - a).toNat a
theorem fst_end {p : Int → Bool} {a : Int} (h : 720 ≤ a) : fst p a = -1 := by rw [fst, show (720 - a).toNat = 0 by omega]; rfl
theorem fst_at {p : Int → Bool} {a : Int} (h : a < 720) : fst p a = if p a = true then a else fst p (a + 1) := by
  rw [fst, show (720 - a).toNat = (720 - (a + 1)).toNat + 1 by omega]; rfl
def dkF (p : Int → Bool) : Nat → Int → Int → Int
  | 0, _, _ => -1
  | n + 1, a, k => if p a = true then (if k = 0 then a else dkF p n (a + 1) (k - 1)) else dkF p n (a + 1) k
def dk (p : Int → Bool) (a k : Int) : Int := dkF p (720 - a).toNat a k
theorem dk_end {p : Int → Bool} {a k : Int} (h : 720 ≤ a) : dk p a k = -1 := by rw [dk, show (720 - a).toNat = 0 by omega]; rfl
theorem dk_at {p : Int → Bool} {a k : Int} (h : a < 720) : dk p a k = if p a = true then (if k = 0 then a else dk p (a + 1) (k - 1)) else dk p (a + 1) k := by
  rw [dk, show (720 - a).toNat = (720 - (a + 1)).toNat + 1 by omega]; rfl
theorem fst_rng {p : Int → Bool} {a : Int} : fst p a = -1 ∨ (a ≤ fst p a ∧ fst p a < 720 ∧ p (fst p a) = true) := by
  by_cases h : a < 720
  · obtain ⟨n, hn⟩ : ∃ n : Nat, a = 720 - n := ⟨(720 - a).toNat, by omega⟩
    subst hn
    clear h
    induction n with
    | zero => exact Or.inl (fst_end (by omega))
    | succ n ih =>
      rw [fst_at (by omega)]
      by_cases hp : p (720 - (n + 1 : Nat)) = true
      · rw [if_pos hp]; exact Or.inr ⟨by omega, by omega, hp⟩
      · rw [if_neg hp, show (720 : Int) - (n + 1 : Nat) + 1 = 720 - n by omega]
        rcases ih with h | h
        · exact Or.inl h
        · exact Or.inr ⟨by omega, h.2.1, h.2.2⟩
  · exact Or.inl (fst_end (by omega))
theorem dk_rng {p : Int → Bool} {a k : Int} : dk p a k = -1 ∨ (a ≤ dk p a k ∧ dk p a k < 720 ∧ p (dk p a k) = true) := by
  by_cases h : a < 720
  · obtain ⟨n, hn⟩ : ∃ n : Nat, a = 720 - n := ⟨(720 - a).toNat, by omega⟩
    subst hn
    clear h
    induction n generalizing k with
    | zero => exact Or.inl (dk_end (by omega))
    | succ n ih =>
      rw [dk_at (by omega), show (720 : Int) - (n + 1 : Nat) + 1 = 720 - n by omega]
      by_cases hp : p (720 - (n + 1 : Nat)) = true
      · rw [if_pos hp]
        by_cases hk : k = 0
        · rw [if_pos hk]; exact Or.inr ⟨by omega, by omega, hp⟩
        · rw [if_neg hk]
          rcases ih (k := k - 1) with h | h
          · exact Or.inl h
          · exact Or.inr ⟨by omega, h.2.1, h.2.2⟩
      · rw [if_neg hp]
        rcases ih (k := k) with h | h
        · exact Or.inl h
        · exact Or.inr ⟨by omega, h.2.1, h.2.2⟩
  · exact Or.inl (dk_end (by omega))
theorem fa_and (a b : Nat) : nI a &&& nI b = nI (a &&& b) := by
  apply Int32.toBitVec_inj.1
  show BitVec.ofNat 32 a &&& BitVec.ofNat 32 b = BitVec.ofNat 32 (a &&& b)
  apply BitVec.eq_of_getLsbD_eq
  intro i hi
  simp [hi]
theorem fa_or (a b : Nat) : nI a ||| nI b = nI (a ||| b) := by
  apply Int32.toBitVec_inj.1
  show BitVec.ofNat 32 a ||| BitVec.ofNat 32 b = BitVec.ofNat 32 (a ||| b)
  apply BitVec.eq_of_getLsbD_eq
  intro i hi
  simp [hi]
theorem zI_and (a b : Nat) : zI (a : Int) &&& zI (b : Int) = zI ((a &&& b : Nat) : Int) := by rw [zI_nat, zI_nat, zI_nat, fa_and]
theorem zI_or (a b : Nat) : zI (a : Int) ||| zI (b : Int) = zI ((a ||| b : Nat) : Int) := by rw [zI_nat, zI_nat, zI_nat, fa_or]
theorem zI_shl1 {o : Nat} (h : o < 8) : zI 1 <<< (zI (o : Int) &&& 31) = zI ((2 ^ o : Nat) : Int) := by
  have key : ∀ o : Nat, o < 8 → zI 1 <<< (zI (o : Int) &&& 31) = zI ((2 ^ o : Nat) : Int) := by decide +kernel
  exact key o h
theorem bit_0 (n j : Nat) : n &&& 2 ^ j = 0 ↔ n.testBit j = false := by
  constructor
  · intro h
    have h1 : (n &&& 2 ^ j).testBit j = false := by rw [h]; simp
    rw [Nat.testBit_and] at h1
    simpa using h1
  · intro h
    apply Nat.eq_of_testBit_eq
    intro i
    rw [Nat.testBit_and, Nat.testBit_two_pow]
    by_cases e : j = i
    · subst e; simp [h]
    · simp [e]
theorem pow8 {o : Nat} (h : o < 8) : 2 ^ o ≤ 128 := by
  have key : ∀ o : Nat, o < 8 → 2 ^ o ≤ 128 := by decide
  exact key o h
theorem DUE.same {M M1 : Nat → Int → Int} {k : Nat} {p : Int → Bool} (h : ∀ d, 0 ≤ d → d < 720 → M k d = bI (p d)) (e : M1 k = M k) : ∀ d, 0 ≤ d → d < 720 → M1 k d = bI (p d) := by rw [e]; exact h
theorem NS_rng (h : Int → Bool) (d : Int) : 0 ≤ NS h d ∧ NS h d ≤ 30 := by
  unfold NS
  split
  · have := ct_rng (wk h) (d - d % 30) (d + 1) (by omega); omega
  · omega
theorem NE_rng (h : Int → Bool) (d : Int) : 0 ≤ NE h d ∧ NE h d ≤ 30 := by
  unfold NE
  split
  · have := ct_rng (wk h) d (d - d % 30 + 30) (by omega); omega
  · omega
set_option maxHeartbeats 4000000 in
set_option maxRecDepth 100000 in
theorem c_isNominal_R (l : Launch) (D : va_G) (cy : Nat → ClassId) (sa : Nat → Addr) (hfl : l.stackTraces = false) (ad : Nat → Nat) (i : Nat) (M : Nat → Int → Int) (h : Int → Bool) (q : Nat → Int) (d : Int) (h0 : 0 ≤ d) (h1 : d < 720) (hk : RF M (8 + 2 * i) q) (hp : PV q) (hc : CalI h M) : Ct l D cy sa yX1_isNominal cX1_isNominal 3 (some .boolean) 2 0 0 (rl cy ad i M) [.ref (ad (8 + 2 * i)), vi d, .ref (ad 1)] (fun v ws2 => v = some (vi (bI (nom h q d))) ∧ ws2 = rl cy ad i M) no_x := by
  refine Ct.of (own := RX1) (lc := [(0, .ref (ad (8 + 2 * i))), (1, vi d), (2, .ref (ad 1))]) (by decide +kernel) hfl (Nat.le_of_ble_eq_true rfl) rfl rfl ?_
  intro p e s m args below meth c A C hex hnm
  generalize hQ : vx_MQ below (Qo D (fun v ws2 => v = some (vi (bI (nom h q d))) ∧ ws2 = rl cy ad i M) A) (Xo D no_x A) args s 0 0 A = Q
  replace hQ := hQ.symm
  obtain ⟨hk0, hk1, hk2, hk3, hk4, hk5, hk8, hk9⟩ := id hk
  obtain ⟨⟨p0, p0b⟩, pe, pm, pn, ⟨p2, p2b⟩, ⟨p3, p3b⟩, ⟨p4, p4b⟩, ⟨p5, p5b⟩, ⟨p8, p8b⟩, ⟨p9, p9b⟩⟩ := id hp
  obtain ⟨p1, p1b⟩ := hp.n
  refine V.iload_n C dX1_isNominal_0 1 rfl ?_
  refine V.aload_n C dX1_isNominal_1 0 rfl ?_
  refine V.getf C (v := vi (q 2)) 0 rfl rfl inX1 2 (by decide) fl_X1_40 (fun _ h => h) (by show some _ = some _; rw [hk2]) dX1_isNominal_2 ?_
  refine V.icmp_ge C 10 dX1_isNominal_5 (by decide) ⟨by omega, by omega⟩ ⟨by omega, by omega⟩ (fun h5 => ?_) (fun h5 => ?_)
  · skip
    refine V.aload_n C dX1_isNominal_10 0 rfl ?_
    refine V.getf C (v := vi (q 0)) 0 rfl rfl inX1 0 (by decide) fl_X1_31 (fun _ h => h) (by show some _ = some _; rw [hk0]) dX1_isNominal_11 ?_
    rcases (show q 0 = 0 ∨ q 0 = 1 ∨ q 0 = 2 ∨ q 0 = 3 by omega) with e0 | e0 | e0 | e0
    · skip
      refine V.table C 40 dX1_isNominal_14 ⟨by omega, by omega⟩ (26) (by rw [e0]; decide) (by decide) ?_
      have p1e := (pe e0).1
      refine V.aload_n C dX1_isNominal_40 0 rfl ?_
      refine V.getf C (v := vi (q 1)) 0 rfl rfl inX1 1 (by decide) fl_X1_34 (fun _ h => h) (by show some _ = some _; rw [hk1]) dX1_isNominal_41 ?_
      refine V.if_le C 65 dX1_isNominal_44 (by decide) ⟨by omega, by omega⟩ (fun h44 => (by exfalso; omega)) (fun h44 => ?_)
      refine V.iload_n C dX1_isNominal_47 1 rfl ?_
      refine V.aload_n C dX1_isNominal_48 0 rfl ?_
      refine V.getf C (v := vi (q 2)) 0 rfl rfl inX1 2 (by decide) fl_X1_40 (fun _ h => h) (by show some _ = some _; rw [hk2]) dX1_isNominal_49 ?_
      refine V.isub C dX1_isNominal_52 ?_
      refine V.aload_n C dX1_isNominal_53 0 rfl ?_
      refine V.getf C (v := vi (q 1)) 0 rfl rfl inX1 1 (by decide) fl_X1_34 (fun _ h => h) (by show some _ = some _; rw [hk1]) dX1_isNominal_54 ?_
      refine V.irem C dX1_isNominal_57 ⟨by omega, by omega⟩ (by omega) ⟨by omega, by omega⟩ (by omega) ?_
      have hm0 := Int.emod_nonneg (d - q 2) (show q 1 ≠ 0 by omega)
      have hm1 := Int.emod_lt_of_pos (d - q 2) (show 0 < q 1 by omega)
      refine V.if_ne C 65 dX1_isNominal_58 (by decide) ⟨by omega, by omega⟩ (fun h58 => ?_) (fun h58 => ?_)
      · skip
        refine V.iconst C dX1_isNominal_65 ?_
        show V D 3 A p l e (rmL 2 0 0) s m args below meth c Q 0 0 (rl cy ad i M) 66 [(0, .ref (ad (8 + 2 * i))), (1, vi d), (2, .ref (ad 1))] [vi (bI false)]
        rw [hQ]
        exact V.zret C dX1_isNominal_66 (by decide) (by decide) (⟨rb (by simp [nom, h5, e0, h58]), rfl⟩)
      · skip
        refine V.iconst C dX1_isNominal_61 ?_
        refine V.goto C 66 dX1_isNominal_62 (by decide) ?_
        show V D 3 A p l e (rmL 2 0 0) s m args below meth c Q 0 0 (rl cy ad i M) 66 [(0, .ref (ad (8 + 2 * i))), (1, vi d), (2, .ref (ad 1))] [vi (bI true)]
        rw [hQ]
        exact V.zret C dX1_isNominal_66 (by decide) (by decide) (⟨rb (by simp [nom, h5, e0, h58]), rfl⟩)
    · skip
      refine V.table C 67 dX1_isNominal_14 ⟨by omega, by omega⟩ (53) (by rw [e0]; decide) (by decide) ?_
      refine V.iload_n C dX1_isNominal_67 1 rfl ?_
      refine V.bipush C dX1_isNominal_68 (by decide) ?_
      refine V.irem C dX1_isNominal_70 ⟨by omega, by omega⟩ (by omega) ⟨by omega, by omega⟩ (by omega) ?_
      refine V.aload_n C dX1_isNominal_71 0 rfl ?_
      refine V.getf C (v := vi (q 1)) 0 rfl rfl inX1 1 (by decide) fl_X1_34 (fun _ h => h) (by show some _ = some _; rw [hk1]) dX1_isNominal_72 ?_
      refine V.icmp_ne C 82 dX1_isNominal_75 (by decide) ⟨by omega, by omega⟩ ⟨by omega, by omega⟩ (fun h75 => ?_) (fun h75 => ?_)
      · skip
        refine V.iconst C dX1_isNominal_82 ?_
        show V D 3 A p l e (rmL 2 0 0) s m args below meth c Q 0 0 (rl cy ad i M) 83 [(0, .ref (ad (8 + 2 * i))), (1, vi d), (2, .ref (ad 1))] [vi (bI false)]
        rw [hQ]
        exact V.zret C dX1_isNominal_83 (by decide) (by decide) (⟨rb (by simp [nom, h5, e0, h75]), rfl⟩)
      · skip
        refine V.iconst C dX1_isNominal_78 ?_
        refine V.goto C 83 dX1_isNominal_79 (by decide) ?_
        show V D 3 A p l e (rmL 2 0 0) s m args below meth c Q 0 0 (rl cy ad i M) 83 [(0, .ref (ad (8 + 2 * i))), (1, vi d), (2, .ref (ad 1))] [vi (bI true)]
        rw [hQ]
        exact V.zret C dX1_isNominal_83 (by decide) (by decide) (⟨rb (by simp [nom, h5, e0, h75]), rfl⟩)
    · skip
      refine V.table C 84 dX1_isNominal_14 ⟨by omega, by omega⟩ (70) (by rw [e0]; decide) (by decide) ?_
      refine V.aload_n C dX1_isNominal_84 2 rfl ?_
      refine V.iload_n C dX1_isNominal_85 1 rfl ?_
      refine V.callV C (As := [vi d]) (st := []) (wr := []) kV_X1_72 (c_numberFromStart_R l D cy sa hfl ad i M d h0 h1) rfl 2 rfl rfl rfl rfl (Nat.le_of_ble_eq_true rfl) ⟨by decide, by decide⟩ ⟨by decide, by decide⟩ dX1_isNominal_86 (fun _ _ h => h.elim) (fun v1 w2 r3 => ?_)
      obtain ⟨rfl, rfl⟩ := r3
      show V D 3 A p l e (rmL 2 0 0) s m args below meth c Q 0 0 (rl cy ad i M) 89 [(0, .ref (ad (8 + 2 * i))), (1, vi d), (2, .ref (ad 1))] [vi (M 3 d)]
      have hz := NS_rng h d
      have hy := (hc.2 d h0 h1).1
      refine V.aload_n C dX1_isNominal_89 0 rfl ?_
      refine V.getf C (v := vi (q 1)) 0 rfl rfl inX1 1 (by decide) fl_X1_34 (fun _ h => h) (by show some _ = some _; rw [hk1]) dX1_isNominal_90 ?_
      refine V.icmp_ne C 100 dX1_isNominal_93 (by decide) ⟨by omega, by omega⟩ ⟨by omega, by omega⟩ (fun h93 => ?_) (fun h93 => ?_)
      · skip
        refine V.iconst C dX1_isNominal_100 ?_
        show V D 3 A p l e (rmL 2 0 0) s m args below meth c Q 0 0 (rl cy ad i M) 101 [(0, .ref (ad (8 + 2 * i))), (1, vi d), (2, .ref (ad 1))] [vi (bI false)]
        rw [hQ]
        exact V.zret C dX1_isNominal_101 (by decide) (by decide) (⟨rb (by rw [hy] at h93; simp [nom, h5, e0, h93]), rfl⟩)
      · skip
        refine V.iconst C dX1_isNominal_96 ?_
        refine V.goto C 101 dX1_isNominal_97 (by decide) ?_
        show V D 3 A p l e (rmL 2 0 0) s m args below meth c Q 0 0 (rl cy ad i M) 101 [(0, .ref (ad (8 + 2 * i))), (1, vi d), (2, .ref (ad 1))] [vi (bI true)]
        rw [hQ]
        exact V.zret C dX1_isNominal_101 (by decide) (by decide) (⟨rb (by rw [hy] at h93; simp [nom, h5, e0, h93]), rfl⟩)
    · skip
      refine V.table C 102 dX1_isNominal_14 ⟨by omega, by omega⟩ (88) (by rw [e0]; decide) (by decide) ?_
      refine V.aload_n C dX1_isNominal_102 2 rfl ?_
      refine V.iload_n C dX1_isNominal_103 1 rfl ?_
      refine V.callV C (As := [vi d]) (st := []) (wr := []) kV_X1_75 (c_numberFromEnd_R l D cy sa hfl ad i M d h0 h1) rfl 2 rfl rfl rfl rfl (Nat.le_of_ble_eq_true rfl) ⟨by decide, by decide⟩ ⟨by decide, by decide⟩ dX1_isNominal_104 (fun _ _ h => h.elim) (fun v4 w5 r6 => ?_)
      obtain ⟨rfl, rfl⟩ := r6
      show V D 3 A p l e (rmL 2 0 0) s m args below meth c Q 0 0 (rl cy ad i M) 107 [(0, .ref (ad (8 + 2 * i))), (1, vi d), (2, .ref (ad 1))] [vi (M 4 d)]
      have hz := NE_rng h d
      have hy := (hc.2 d h0 h1).2
      refine V.aload_n C dX1_isNominal_107 0 rfl ?_
      refine V.getf C (v := vi (q 1)) 0 rfl rfl inX1 1 (by decide) fl_X1_34 (fun _ h => h) (by show some _ = some _; rw [hk1]) dX1_isNominal_108 ?_
      refine V.icmp_ne C 118 dX1_isNominal_111 (by decide) ⟨by omega, by omega⟩ ⟨by omega, by omega⟩ (fun h111 => ?_) (fun h111 => ?_)
      · skip
        refine V.iconst C dX1_isNominal_118 ?_
        show V D 3 A p l e (rmL 2 0 0) s m args below meth c Q 0 0 (rl cy ad i M) 119 [(0, .ref (ad (8 + 2 * i))), (1, vi d), (2, .ref (ad 1))] [vi (bI false)]
        rw [hQ]
        exact V.zret C dX1_isNominal_119 (by decide) (by decide) (⟨rb (by rw [hy] at h111; simp [nom, h5, e0, h111]), rfl⟩)
      · skip
        refine V.iconst C dX1_isNominal_114 ?_
        refine V.goto C 119 dX1_isNominal_115 (by decide) ?_
        show V D 3 A p l e (rmL 2 0 0) s m args below meth c Q 0 0 (rl cy ad i M) 119 [(0, .ref (ad (8 + 2 * i))), (1, vi d), (2, .ref (ad 1))] [vi (bI true)]
        rw [hQ]
        exact V.zret C dX1_isNominal_119 (by decide) (by decide) (⟨rb (by rw [hy] at h111; simp [nom, h5, e0, h111]), rfl⟩)
  · skip
    refine V.iconst C dX1_isNominal_8 ?_
    show V D 3 A p l e (rmL 2 0 0) s m args below meth c Q 0 0 (rl cy ad i M) 9 [(0, .ref (ad (8 + 2 * i))), (1, vi d), (2, .ref (ad 1))] [vi (bI false)]
    rw [hQ]
    exact V.zret C dX1_isNominal_9 (by decide) (by decide) (⟨rb (by simp [nom]; omega), rfl⟩)
set_option maxHeartbeats 4000000 in
set_option maxRecDepth 100000 in
theorem c_isNominal (l : Launch) (D : va_G) (cy : Nat → ClassId) (sa : Nat → Addr) (hfl : l.stackTraces = false) (ad : Nat → Nat) (n : Nat) (M : Nat → Int → Int) (i : Nat) (hi : i < n) (h : Int → Bool) (q : Nat → Int) (d : Int) (h0 : 0 ≤ d) (h1 : d < 720) (hk : RF M (8 + 2 * i) q) (hp : PV q) (hc : CalI h M) : Ct l D cy sa yX1_isNominal cX1_isNominal 3 (some .boolean) 2 0 0 (cl cy (sa 100) ad n M) [.ref (ad (8 + 2 * i)), vi d, .ref (ad 1)] (fun v ws2 => v = some (vi (bI (nom h q d))) ∧ ws2 = cl cy (sa 100) ad n M) no_x := by
  refine Ct.of (own := RX1) (lc := [(0, .ref (ad (8 + 2 * i))), (1, vi d), (2, .ref (ad 1))]) (by decide +kernel) hfl (Nat.le_of_ble_eq_true rfl) rfl rfl ?_
  intro p e s m args below meth c A C hex hnm
  generalize hQ : vx_MQ below (Qo D (fun v ws2 => v = some (vi (bI (nom h q d))) ∧ ws2 = cl cy (sa 100) ad n M) A) (Xo D no_x A) args s 0 0 A = Q
  replace hQ := hQ.symm
  obtain ⟨hk0, hk1, hk2, hk3, hk4, hk5, hk8, hk9⟩ := id hk
  obtain ⟨⟨p0, p0b⟩, pe, pm, pn, ⟨p2, p2b⟩, ⟨p3, p3b⟩, ⟨p4, p4b⟩, ⟨p5, p5b⟩, ⟨p8, p8b⟩, ⟨p9, p9b⟩⟩ := id hp
  obtain ⟨p1, p1b⟩ := hp.n
  refine V.iload_n C dX1_isNominal_0 1 rfl ?_
  refine V.aload_n C dX1_isNominal_1 0 rfl ?_
  refine V.getf C (v := vi (q 2)) (8 + 2 * i) (cl_r hi) rfl inX1 2 (by decide) fl_X1_40 (fun _ h => h) (by show some _ = some _; rw [hk2]) dX1_isNominal_2 ?_
  refine V.icmp_ge C 10 dX1_isNominal_5 (by decide) ⟨by omega, by omega⟩ ⟨by omega, by omega⟩ (fun h5 => ?_) (fun h5 => ?_)
  · skip
    refine V.aload_n C dX1_isNominal_10 0 rfl ?_
    refine V.getf C (v := vi (q 0)) (8 + 2 * i) (cl_r hi) rfl inX1 0 (by decide) fl_X1_31 (fun _ h => h) (by show some _ = some _; rw [hk0]) dX1_isNominal_11 ?_
    rcases (show q 0 = 0 ∨ q 0 = 1 ∨ q 0 = 2 ∨ q 0 = 3 by omega) with e0 | e0 | e0 | e0
    · skip
      refine V.table C 40 dX1_isNominal_14 ⟨by omega, by omega⟩ (26) (by rw [e0]; decide) (by decide) ?_
      have p1e := (pe e0).1
      refine V.aload_n C dX1_isNominal_40 0 rfl ?_
      refine V.getf C (v := vi (q 1)) (8 + 2 * i) (cl_r hi) rfl inX1 1 (by decide) fl_X1_34 (fun _ h => h) (by show some _ = some _; rw [hk1]) dX1_isNominal_41 ?_
      refine V.if_le C 65 dX1_isNominal_44 (by decide) ⟨by omega, by omega⟩ (fun h44 => (by exfalso; omega)) (fun h44 => ?_)
      refine V.iload_n C dX1_isNominal_47 1 rfl ?_
      refine V.aload_n C dX1_isNominal_48 0 rfl ?_
      refine V.getf C (v := vi (q 2)) (8 + 2 * i) (cl_r hi) rfl inX1 2 (by decide) fl_X1_40 (fun _ h => h) (by show some _ = some _; rw [hk2]) dX1_isNominal_49 ?_
      refine V.isub C dX1_isNominal_52 ?_
      refine V.aload_n C dX1_isNominal_53 0 rfl ?_
      refine V.getf C (v := vi (q 1)) (8 + 2 * i) (cl_r hi) rfl inX1 1 (by decide) fl_X1_34 (fun _ h => h) (by show some _ = some _; rw [hk1]) dX1_isNominal_54 ?_
      refine V.irem C dX1_isNominal_57 ⟨by omega, by omega⟩ (by omega) ⟨by omega, by omega⟩ (by omega) ?_
      have hm0 := Int.emod_nonneg (d - q 2) (show q 1 ≠ 0 by omega)
      have hm1 := Int.emod_lt_of_pos (d - q 2) (show 0 < q 1 by omega)
      refine V.if_ne C 65 dX1_isNominal_58 (by decide) ⟨by omega, by omega⟩ (fun h58 => ?_) (fun h58 => ?_)
      · skip
        refine V.iconst C dX1_isNominal_65 ?_
        show V D 3 A p l e (rmL 2 0 0) s m args below meth c Q 0 0 (cl cy (sa 100) ad n M) 66 [(0, .ref (ad (8 + 2 * i))), (1, vi d), (2, .ref (ad 1))] [vi (bI false)]
        rw [hQ]
        exact V.zret C dX1_isNominal_66 (by decide) (by decide) (⟨rb (by simp [nom, h5, e0, h58]), rfl⟩)
      · skip
        refine V.iconst C dX1_isNominal_61 ?_
        refine V.goto C 66 dX1_isNominal_62 (by decide) ?_
        show V D 3 A p l e (rmL 2 0 0) s m args below meth c Q 0 0 (cl cy (sa 100) ad n M) 66 [(0, .ref (ad (8 + 2 * i))), (1, vi d), (2, .ref (ad 1))] [vi (bI true)]
        rw [hQ]
        exact V.zret C dX1_isNominal_66 (by decide) (by decide) (⟨rb (by simp [nom, h5, e0, h58]), rfl⟩)
    · skip
      refine V.table C 67 dX1_isNominal_14 ⟨by omega, by omega⟩ (53) (by rw [e0]; decide) (by decide) ?_
      refine V.iload_n C dX1_isNominal_67 1 rfl ?_
      refine V.bipush C dX1_isNominal_68 (by decide) ?_
      refine V.irem C dX1_isNominal_70 ⟨by omega, by omega⟩ (by omega) ⟨by omega, by omega⟩ (by omega) ?_
      refine V.aload_n C dX1_isNominal_71 0 rfl ?_
      refine V.getf C (v := vi (q 1)) (8 + 2 * i) (cl_r hi) rfl inX1 1 (by decide) fl_X1_34 (fun _ h => h) (by show some _ = some _; rw [hk1]) dX1_isNominal_72 ?_
      refine V.icmp_ne C 82 dX1_isNominal_75 (by decide) ⟨by omega, by omega⟩ ⟨by omega, by omega⟩ (fun h75 => ?_) (fun h75 => ?_)
      · skip
        refine V.iconst C dX1_isNominal_82 ?_
        show V D 3 A p l e (rmL 2 0 0) s m args below meth c Q 0 0 (cl cy (sa 100) ad n M) 83 [(0, .ref (ad (8 + 2 * i))), (1, vi d), (2, .ref (ad 1))] [vi (bI false)]
        rw [hQ]
        exact V.zret C dX1_isNominal_83 (by decide) (by decide) (⟨rb (by simp [nom, h5, e0, h75]), rfl⟩)
      · skip
        refine V.iconst C dX1_isNominal_78 ?_
        refine V.goto C 83 dX1_isNominal_79 (by decide) ?_
        show V D 3 A p l e (rmL 2 0 0) s m args below meth c Q 0 0 (cl cy (sa 100) ad n M) 83 [(0, .ref (ad (8 + 2 * i))), (1, vi d), (2, .ref (ad 1))] [vi (bI true)]
        rw [hQ]
        exact V.zret C dX1_isNominal_83 (by decide) (by decide) (⟨rb (by simp [nom, h5, e0, h75]), rfl⟩)
    · skip
      refine V.table C 84 dX1_isNominal_14 ⟨by omega, by omega⟩ (70) (by rw [e0]; decide) (by decide) ?_
      refine V.aload_n C dX1_isNominal_84 2 rfl ?_
      refine V.iload_n C dX1_isNominal_85 1 rfl ?_
      refine V.callV C (As := [vi d]) (st := []) (wr := []) kV_X1_72 (c_numberFromStart l D cy sa hfl ad n M d h0 h1) rfl 1 cl_1 rfl rfl rfl (Nat.le_of_ble_eq_true rfl) ⟨by decide, by decide⟩ ⟨by decide, by decide⟩ dX1_isNominal_86 (fun _ _ h => h.elim) (fun v1 w2 r3 => ?_)
      obtain ⟨rfl, rfl⟩ := r3
      show V D 3 A p l e (rmL 2 0 0) s m args below meth c Q 0 0 (cl cy (sa 100) ad n M) 89 [(0, .ref (ad (8 + 2 * i))), (1, vi d), (2, .ref (ad 1))] [vi (M 3 d)]
      have hz := NS_rng h d
      have hy := (hc.2 d h0 h1).1
      refine V.aload_n C dX1_isNominal_89 0 rfl ?_
      refine V.getf C (v := vi (q 1)) (8 + 2 * i) (cl_r hi) rfl inX1 1 (by decide) fl_X1_34 (fun _ h => h) (by show some _ = some _; rw [hk1]) dX1_isNominal_90 ?_
      refine V.icmp_ne C 100 dX1_isNominal_93 (by decide) ⟨by omega, by omega⟩ ⟨by omega, by omega⟩ (fun h93 => ?_) (fun h93 => ?_)
      · skip
        refine V.iconst C dX1_isNominal_100 ?_
        show V D 3 A p l e (rmL 2 0 0) s m args below meth c Q 0 0 (cl cy (sa 100) ad n M) 101 [(0, .ref (ad (8 + 2 * i))), (1, vi d), (2, .ref (ad 1))] [vi (bI false)]
        rw [hQ]
        exact V.zret C dX1_isNominal_101 (by decide) (by decide) (⟨rb (by rw [hy] at h93; simp [nom, h5, e0, h93]), rfl⟩)
      · skip
        refine V.iconst C dX1_isNominal_96 ?_
        refine V.goto C 101 dX1_isNominal_97 (by decide) ?_
        show V D 3 A p l e (rmL 2 0 0) s m args below meth c Q 0 0 (cl cy (sa 100) ad n M) 101 [(0, .ref (ad (8 + 2 * i))), (1, vi d), (2, .ref (ad 1))] [vi (bI true)]
        rw [hQ]
        exact V.zret C dX1_isNominal_101 (by decide) (by decide) (⟨rb (by rw [hy] at h93; simp [nom, h5, e0, h93]), rfl⟩)
    · skip
      refine V.table C 102 dX1_isNominal_14 ⟨by omega, by omega⟩ (88) (by rw [e0]; decide) (by decide) ?_
      refine V.aload_n C dX1_isNominal_102 2 rfl ?_
      refine V.iload_n C dX1_isNominal_103 1 rfl ?_
      refine V.callV C (As := [vi d]) (st := []) (wr := []) kV_X1_75 (c_numberFromEnd l D cy sa hfl ad n M d h0 h1) rfl 1 cl_1 rfl rfl rfl (Nat.le_of_ble_eq_true rfl) ⟨by decide, by decide⟩ ⟨by decide, by decide⟩ dX1_isNominal_104 (fun _ _ h => h.elim) (fun v4 w5 r6 => ?_)
      obtain ⟨rfl, rfl⟩ := r6
      show V D 3 A p l e (rmL 2 0 0) s m args below meth c Q 0 0 (cl cy (sa 100) ad n M) 107 [(0, .ref (ad (8 + 2 * i))), (1, vi d), (2, .ref (ad 1))] [vi (M 4 d)]
      have hz := NE_rng h d
      have hy := (hc.2 d h0 h1).2
      refine V.aload_n C dX1_isNominal_107 0 rfl ?_
      refine V.getf C (v := vi (q 1)) (8 + 2 * i) (cl_r hi) rfl inX1 1 (by decide) fl_X1_34 (fun _ h => h) (by show some _ = some _; rw [hk1]) dX1_isNominal_108 ?_
      refine V.icmp_ne C 118 dX1_isNominal_111 (by decide) ⟨by omega, by omega⟩ ⟨by omega, by omega⟩ (fun h111 => ?_) (fun h111 => ?_)
      · skip
        refine V.iconst C dX1_isNominal_118 ?_
        show V D 3 A p l e (rmL 2 0 0) s m args below meth c Q 0 0 (cl cy (sa 100) ad n M) 119 [(0, .ref (ad (8 + 2 * i))), (1, vi d), (2, .ref (ad 1))] [vi (bI false)]
        rw [hQ]
        exact V.zret C dX1_isNominal_119 (by decide) (by decide) (⟨rb (by rw [hy] at h111; simp [nom, h5, e0, h111]), rfl⟩)
      · skip
        refine V.iconst C dX1_isNominal_114 ?_
        refine V.goto C 119 dX1_isNominal_115 (by decide) ?_
        show V D 3 A p l e (rmL 2 0 0) s m args below meth c Q 0 0 (cl cy (sa 100) ad n M) 119 [(0, .ref (ad (8 + 2 * i))), (1, vi d), (2, .ref (ad 1))] [vi (bI true)]
        rw [hQ]
        exact V.zret C dX1_isNominal_119 (by decide) (by decide) (⟨rb (by rw [hy] at h111; simp [nom, h5, e0, h111]), rfl⟩)
  · skip
    refine V.iconst C dX1_isNominal_8 ?_
    show V D 3 A p l e (rmL 2 0 0) s m args below meth c Q 0 0 (cl cy (sa 100) ad n M) 9 [(0, .ref (ad (8 + 2 * i))), (1, vi d), (2, .ref (ad 1))] [vi (bI false)]
    rw [hQ]
    exact V.zret C dX1_isNominal_9 (by decide) (by decide) (⟨rb (by simp [nom]; omega), rfl⟩)
theorem wst {w nm : Int → Bool} {sh x dd : Int} {b2 b3 b4 : Bool} (e0 : 0 ≤ x) (hb : b2 = (wb w nm sh x.toNat || nm dd)) (hd : dd = dyS sh x) (_ : b3 = (w dd && b2)) (h : (w dd = true ∧ b4 = false) ∨ (sh = 2 ∧ b4 = false) ∨ (w dd = false ∧ ¬ sh = 2 ∧ b4 = b2)) : b4 = wb w nm sh (x + 1).toNat := by
  rw [wb_up e0, ← hd, ← hb]
  rcases h with ⟨h1, h2⟩ | ⟨h1, h2⟩ | ⟨h1, h2, h3⟩
  · rw [h1, h2]; simp
  · rw [h1, h2]; simp
  · rw [h1, h3]; simp [h2]
set_option maxHeartbeats 4000000 in
set_option maxRecDepth 100000 in
theorem c_layDueDays_R (l : Launch) (D : va_G) (cy : Nat → ClassId) (sa : Nat → Addr) (hfl : l.stackTraces = false) (ad : Nat → Nat) (i : Nat) (M : Nat → Int → Int) (h : Int → Bool) (q : Nat → Int)  (hk : RF M (8 + 2 * i) q) (hp : PV q) (hc : CalI h M) : Ct l D cy sa yX1_layDueDays cX1_layDueDays 6 none 3 0 0 (rl cy ad i M) [.ref (ad (8 + 2 * i)), .ref (ad 1)] (fun v ws2 => v = none ∧ ∃ M2, ws2 = rl cy ad i M2 ∧ (∀ k, k ≠ (8 + 2 * i + 1) → M2 k = M k) ∧ ∀ d, 0 ≤ d → d < 720 → M2 (8 + 2 * i + 1) d = bI (dueR h q d)) no_x := by
  refine Ct.of (own := RX1) (lc := [(0, .ref (ad (8 + 2 * i))), (1, .ref (ad 1))]) (by decide +kernel) hfl (Nat.le_of_ble_eq_true rfl) rfl rfl ?_
  intro p e s m args below meth c A C hex hnm
  generalize hQ : vx_MQ below (Qo D (fun v ws2 => v = none ∧ ∃ M2, ws2 = rl cy ad i M2 ∧ (∀ k, k ≠ (8 + 2 * i + 1) → M2 k = M k) ∧ ∀ d, 0 ≤ d → d < 720 → M2 (8 + 2 * i + 1) d = bI (dueR h q d)) A) (Xo D no_x A) args s 0 0 A = Q
  replace hQ := hQ.symm
  obtain ⟨hk0, hk1, hk2, hk3, hk4, hk5, hk8, hk9⟩ := id hk
  obtain ⟨⟨p0, p0b⟩, pe, pm, pn, ⟨p2, p2b⟩, ⟨p3, p3b⟩, ⟨p4, p4b⟩, ⟨p5, p5b⟩, ⟨p8, p8b⟩, ⟨p9, p9b⟩⟩ := id hp
  obtain ⟨p1, p1b⟩ := hp.n
  refine V.iconst C dX1_layDueDays_0 ?_
  refine V.istore_n C (lc2 := [(2, vi 0), (0, .ref (ad (8 + 2 * i))), (1, .ref (ad 1))]) dX1_layDueDays_1 (by decide) rfl ?_
  refine V.iconst C dX1_layDueDays_2 ?_
  refine V.istore_n C (lc2 := [(3, vi 0), (2, vi 0), (0, .ref (ad (8 + 2 * i))), (1, .ref (ad 1))]) dX1_layDueDays_3 (by decide) rfl ?_
  have loop4 : ∀ (f : Nat) (x : Int) (b : Bool) (M1 : Nat → Int → Int), (0 ≤ x) → (x ≤ 720) → (b = wb (wk h) (nom h q) (q 5) x.toNat) → (∀ k, k ≠ (8 + 2 * i + 1) → M1 k = M k) → (∀ j, M1 (8 + 2 * i + 1) j = if 0 ≤ j ∧ j < 720 ∧ dyS (q 5) j < x then bI (dueR h q j) else M (8 + 2 * i + 1) j) → ((720 - x).toNat < f) → V D 6 A p l e (rmL 3 0 0) s m args below meth c Q 0 0 (rl cy ad i M1) 4 [(3, vi x), (2, vi (bI b)), (0, .ref (ad (8 + 2 * i))), (1, .ref (ad 1))] [] := by
    intro f
    induction f with
    | zero => intro x b M1 e0 e1 e2 f1 f2 hf; exact absurd hf (Nat.not_lt_zero _)
    | succ f ih4 =>
      intro x b M1 e0 e1 e2 f1 f2 hf4
      obtain ⟨hk0, hk1, hk2, hk3, hk4, hk5, hk8, hk9⟩ := hk.same (f1 _ (by omega))
      have hc1 := hc.same (f1 2 (by omega)) (f1 3 (by omega)) (f1 4 (by omega))
      have hkk := hk.same (f1 _ (by omega))
      refine V.iload_n C dX1_layDueDays_4 0 rfl ?_
      refine V.sipush C dX1_layDueDays_5 (by decide) ?_
      refine V.icmp_ge C 100 dX1_layDueDays_8 (by decide) ⟨by omega, by omega⟩ ⟨by decide, by decide⟩ (fun h8 => ?_) (fun h8 => ?_)
      · skip
        rw [hQ]
        exact V.vret C dX1_layDueDays_100 (by decide) (by decide) (⟨rfl, M1, rfl, f1, fun d1 g0 g1 => by rw [f2 d1, if_pos ⟨g0, g1, by have := (dyS_rng (sh := q 5) g0 g1).2; omega⟩]⟩)
      · skip
        have join28 : ∀ (dd : Int), (dd = dyS (q 5) x) → V D 6 A p l e (rmL 3 0 0) s m args below meth c Q 0 0 (rl cy ad i M1) 28 [(3, vi x), (2, vi (bI b)), (0, .ref (ad (8 + 2 * i))), (1, .ref (ad 1))] [vi dd] := by
          intro dd hdd
          have hdr := dyS_rng (sh := q 5) e0 (show x < 720 by omega)
          rw [← hdd] at hdr
          obtain ⟨hdr0, hdr1⟩ := hdr
          refine V.istore C (lc2 := [(4, vi dd), (3, vi x), (2, vi (bI b)), (0, .ref (ad (8 + 2 * i))), (1, .ref (ad 1))]) dX1_layDueDays_28 (by decide) rfl ?_
          refine V.aload_n C dX1_layDueDays_30 4 rfl ?_
          refine V.iload C dX1_layDueDays_31 0 rfl ?_
          refine V.callV C (As := [vi dd]) (st := []) (wr := []) kV_X1_49 (c_works_R l D cy sa hfl ad i M1 h dd (by omega) (by omega) hc1.1) rfl 2 rfl rfl rfl rfl (Nat.le_of_ble_eq_true rfl) ⟨by decide, by decide⟩ ⟨by decide, by decide⟩ dX1_layDueDays_33 (fun _ _ h => h.elim) (fun v1 w2 r3 => ?_)
          obtain ⟨rfl, rfl⟩ := r3
          show V D 6 A p l e (rmL 3 0 0) s m args below meth c Q 0 0 (rl cy ad i M1) 36 [(4, vi dd), (3, vi x), (2, vi (bI b)), (0, .ref (ad (8 + 2 * i))), (1, .ref (ad 1))] [vi (bI (wk h dd))]
          refine V.istore C (lc2 := [(5, vi (bI (wk h dd))), (4, vi dd), (3, vi x), (2, vi (bI b)), (0, .ref (ad (8 + 2 * i))), (1, .ref (ad 1))]) dX1_layDueDays_36 (by decide) rfl ?_
          have join57 : ∀ (b2 : Bool), (b2 = (wb (wk h) (nom h q) (q 5) x.toNat || nom h q dd)) → V D 6 A p l e (rmL 3 0 0) s m args below meth c Q 0 0 (rl cy ad i M1) 57 [(5, vi (bI (wk h dd))), (4, vi dd), (3, vi x), (2, vi (bI b)), (0, .ref (ad (8 + 2 * i))), (1, .ref (ad 1))] [vi (bI b2)] := by
            intro b2 hb
            refine V.istore_n C (lc2 := [(2, vi (bI b2)), (5, vi (bI (wk h dd))), (4, vi dd), (3, vi x), (0, .ref (ad (8 + 2 * i))), (1, .ref (ad 1))]) dX1_layDueDays_57 (by decide) rfl ?_
            refine V.aload_n C dX1_layDueDays_58 4 rfl ?_
            refine V.getf C (v := .ref (ad (8 + 2 * i + 1))) 0 rfl rfl inX1 11 (by decide) fl_X1_27 (fun _ h => h) rfl dX1_layDueDays_59 ?_
            refine V.iload C dX1_layDueDays_62 2 rfl ?_
            refine V.iload C dX1_layDueDays_64 1 rfl ?_
            have join78 : ∀ (b3 : Bool), (b3 = (wk h dd && b2)) → V D 6 A p l e (rmL 3 0 0) s m args below meth c Q 0 0 (rl cy ad i M1) 78 [(2, vi (bI b2)), (5, vi (bI (wk h dd))), (4, vi dd), (3, vi x), (0, .ref (ad (8 + 2 * i))), (1, .ref (ad 1))] [vi (bI b3), vi dd, .ref (ad (8 + 2 * i + 1))] := by
              intro b3 hb2
              have hv : bI b3 = bI (dueR h q dd) := by rw [hb2, hb, hdd, dueR, due_at e0]
              refine V.zast C 1 rfl (by omega) (by omega) (by decide) dX1_layDueDays_78 (rput_d (by omega)) ?_
              refine V.iload C dX1_layDueDays_79 1 rfl ?_
              refine V.if_neB C 92 dX1_layDueDays_81 (by decide) (fun h81 => ?_) (fun h81 => ?_)
              · skip
                refine V.iconst C dX1_layDueDays_92 ?_
                refine V.istore_n C (lc2 := [(2, vi 0), (5, vi (bI (wk h dd))), (4, vi dd), (3, vi x), (0, .ref (ad (8 + 2 * i))), (1, .ref (ad 1))]) dX1_layDueDays_93 (by decide) rfl ?_
                refine V.iinc C (lc2 := [(3, vi (x + 1)), (2, vi 0), (5, vi (bI (wk h dd))), (4, vi dd), (0, .ref (ad (8 + 2 * i))), (1, .ref (ad 1))]) dX1_layDueDays_94 3 rfl (by decide) rfl ?_
                refine V.goto C 4 dX1_layDueDays_97 (by decide) ?_
                exact V.sub [0, 1, 4, 5] rfl (ih4 (x + 1) false (upM M1 (8 + 2 * i + 1) dd (bI b3)) (by omega) (by omega) (wst e0 hb hdd hb2 (by first | exact Or.inl ⟨h81, rfl⟩ | exact Or.inr (Or.inl ⟨h89, rfl⟩) | exact Or.inr (Or.inr ⟨h81, h89, rfl⟩))) (fun k hk9 => (upM_off hk9).trans (f1 k hk9)) (dfill f2 e0 (by omega) hdd hv) (by omega))
              · skip
                refine V.aload_n C dX1_layDueDays_84 4 rfl ?_
                refine V.getf C (v := vi (q 5)) 0 rfl rfl inX1 5 (by decide) fl_X1_37 (fun _ h => h) (by show some _ = some _; rw [show (upM M1 (8 + 2 * i + 1) dd (bI b3)) (8 + 2 * i) = M1 (8 + 2 * i) from upM_off (by omega), hk5]) dX1_layDueDays_85 ?_
                refine V.iconst C dX1_layDueDays_88 ?_
                refine V.icmp_ne C 94 dX1_layDueDays_89 (by decide) ⟨by omega, by omega⟩ ⟨by decide, by decide⟩ (fun h89 => ?_) (fun h89 => ?_)
                · skip
                  refine V.iinc C (lc2 := [(3, vi (x + 1)), (2, vi (bI b2)), (5, vi (bI (wk h dd))), (4, vi dd), (0, .ref (ad (8 + 2 * i))), (1, .ref (ad 1))]) dX1_layDueDays_94 3 rfl (by decide) rfl ?_
                  refine V.goto C 4 dX1_layDueDays_97 (by decide) ?_
                  exact V.sub [0, 1, 4, 5] rfl (ih4 (x + 1) b2 (upM M1 (8 + 2 * i + 1) dd (bI b3)) (by omega) (by omega) (wst e0 hb hdd hb2 (by first | exact Or.inl ⟨h81, rfl⟩ | exact Or.inr (Or.inl ⟨h89, rfl⟩) | exact Or.inr (Or.inr ⟨h81, h89, rfl⟩))) (fun k hk9 => (upM_off hk9).trans (f1 k hk9)) (dfill f2 e0 (by omega) hdd hv) (by omega))
                · skip
                  refine V.iconst C dX1_layDueDays_92 ?_
                  refine V.istore_n C (lc2 := [(2, vi 0), (5, vi (bI (wk h dd))), (4, vi dd), (3, vi x), (0, .ref (ad (8 + 2 * i))), (1, .ref (ad 1))]) dX1_layDueDays_93 (by decide) rfl ?_
                  refine V.iinc C (lc2 := [(3, vi (x + 1)), (2, vi 0), (5, vi (bI (wk h dd))), (4, vi dd), (0, .ref (ad (8 + 2 * i))), (1, .ref (ad 1))]) dX1_layDueDays_94 3 rfl (by decide) rfl ?_
                  refine V.goto C 4 dX1_layDueDays_97 (by decide) ?_
                  exact V.sub [0, 1, 4, 5] rfl (ih4 (x + 1) false (upM M1 (8 + 2 * i + 1) dd (bI b3)) (by omega) (by omega) (wst e0 hb hdd hb2 (by first | exact Or.inl ⟨h81, rfl⟩ | exact Or.inr (Or.inl ⟨h89, rfl⟩) | exact Or.inr (Or.inr ⟨h81, h89, rfl⟩))) (fun k hk9 => (upM_off hk9).trans (f1 k hk9)) (dfill f2 e0 (by omega) hdd hv) (by omega))
            refine V.if_eqB C 77 dX1_layDueDays_66 (by decide) (fun h66 => ?_) (fun h66 => ?_)
            · skip
              refine V.iconst C dX1_layDueDays_77 ?_
              exact join78 false (by first | (rw [h66]; rfl) | (rw [h66, h70]; rfl))
            · skip
              refine V.iload_n C dX1_layDueDays_69 0 rfl ?_
              refine V.if_eqB C 77 dX1_layDueDays_70 (by decide) (fun h70 => ?_) (fun h70 => ?_)
              · skip
                refine V.iconst C dX1_layDueDays_77 ?_
                exact join78 false (by first | (rw [h66]; rfl) | (rw [h66, h70]; rfl))
              · skip
                refine V.iconst C dX1_layDueDays_73 ?_
                refine V.goto C 78 dX1_layDueDays_74 (by decide) ?_
                exact join78 true (by first | (rw [h66]; rfl) | (rw [h66, h70]; rfl))
          refine V.iload_n C dX1_layDueDays_38 3 rfl ?_
          refine V.if_neB C 52 dX1_layDueDays_39 (by decide) (fun h39 => ?_) (fun h39 => ?_)
          · skip
            refine V.iconst C dX1_layDueDays_52 ?_
            refine V.goto C 57 dX1_layDueDays_53 (by decide) ?_
            exact join57 true (by first | (rw [← e2, h39]; rfl) | (rw [← e2, h39, h49]; rfl))
          · skip
            refine V.aload_n C dX1_layDueDays_42 4 rfl ?_
            refine V.iload C dX1_layDueDays_43 1 rfl ?_
            refine V.aload_n C dX1_layDueDays_45 5 rfl ?_
            refine V.callV C (As := [vi dd, .ref (ad 1)]) (st := []) (wr := []) kV_X1_55 (c_isNominal_R l D cy sa hfl ad i M1 h q dd (by omega) (by omega) hkk hp hc1) rfl 0 rfl rfl rfl rfl (Nat.le_of_ble_eq_true rfl) ⟨by decide, by decide⟩ ⟨by decide, by decide⟩ dX1_layDueDays_46 (fun _ _ h => h.elim) (fun v4 w5 r6 => ?_)
            obtain ⟨rfl, rfl⟩ := r6
            show V D 6 A p l e (rmL 3 0 0) s m args below meth c Q 0 0 (rl cy ad i M1) 49 [(5, vi (bI (wk h dd))), (4, vi dd), (3, vi x), (2, vi (bI b)), (0, .ref (ad (8 + 2 * i))), (1, .ref (ad 1))] [vi (bI (nom h q dd))]
            refine V.if_eqB C 56 dX1_layDueDays_49 (by decide) (fun h49 => ?_) (fun h49 => ?_)
            · skip
              refine V.iconst C dX1_layDueDays_56 ?_
              exact join57 false (by first | (rw [← e2, h39]; rfl) | (rw [← e2, h39, h49]; rfl))
            · skip
              refine V.iconst C dX1_layDueDays_52 ?_
              refine V.goto C 57 dX1_layDueDays_53 (by decide) ?_
              exact join57 true (by first | (rw [← e2, h39]; rfl) | (rw [← e2, h39, h49]; rfl))
        refine V.aload_n C dX1_layDueDays_11 2 rfl ?_
        refine V.getf C (v := vi (q 5)) 0 rfl rfl inX1 5 (by decide) fl_X1_37 (fun _ h => h) (by show some _ = some _; rw [hk5]) dX1_layDueDays_12 ?_
        refine V.iconst C dX1_layDueDays_15 ?_
        refine V.icmp_ne C 27 dX1_layDueDays_16 (by decide) ⟨by omega, by omega⟩ ⟨by decide, by decide⟩ (fun h16 => ?_) (fun h16 => ?_)
        · skip
          refine V.iload_n C dX1_layDueDays_27 0 rfl ?_
          exact join28 x (by first | rw [h16, dyS_1] | rw [dyS_n h16])
        · skip
          refine V.sipush C dX1_layDueDays_19 (by decide) ?_
          refine V.iload_n C dX1_layDueDays_22 0 rfl ?_
          refine V.isub C dX1_layDueDays_23 ?_
          refine V.goto C 28 dX1_layDueDays_24 (by decide) ?_
          exact join28 (719 - x) (by first | rw [h16, dyS_1] | rw [dyS_n h16])
  exact loop4 _ 0 false M (by omega) (by omega) rfl (fun _ _ => rfl) (fun j => (if_neg (fun z => by have := (dyS_rng (sh := q 5) z.1 z.2.1).1; omega)).symm) (Nat.lt_succ_self _)
set_option maxHeartbeats 4000000 in
set_option maxRecDepth 100000 in
theorem c_layDueDays (l : Launch) (D : va_G) (cy : Nat → ClassId) (sa : Nat → Addr) (hfl : l.stackTraces = false) (ad : Nat → Nat) (n : Nat) (M : Nat → Int → Int) (i : Nat) (hi : i < n) (h : Int → Bool) (q : Nat → Int)  (hk : RF M (8 + 2 * i) q) (hp : PV q) (hc : CalI h M) : Ct l D cy sa yX1_layDueDays cX1_layDueDays 6 none 3 0 0 (cl cy (sa 100) ad n M) [.ref (ad (8 + 2 * i)), .ref (ad 1)] (fun v ws2 => v = none ∧ ∃ M2, ws2 = cl cy (sa 100) ad n M2 ∧ (∀ k, k ≠ (8 + 2 * i + 1) → M2 k = M k) ∧ ∀ d, 0 ≤ d → d < 720 → M2 (8 + 2 * i + 1) d = bI (dueR h q d)) no_x := by
  refine Ct.of (own := RX1) (lc := [(0, .ref (ad (8 + 2 * i))), (1, .ref (ad 1))]) (by decide +kernel) hfl (Nat.le_of_ble_eq_true rfl) rfl rfl ?_
  intro p e s m args below meth c A C hex hnm
  generalize hQ : vx_MQ below (Qo D (fun v ws2 => v = none ∧ ∃ M2, ws2 = cl cy (sa 100) ad n M2 ∧ (∀ k, k ≠ (8 + 2 * i + 1) → M2 k = M k) ∧ ∀ d, 0 ≤ d → d < 720 → M2 (8 + 2 * i + 1) d = bI (dueR h q d)) A) (Xo D no_x A) args s 0 0 A = Q
  replace hQ := hQ.symm
  obtain ⟨hk0, hk1, hk2, hk3, hk4, hk5, hk8, hk9⟩ := id hk
  obtain ⟨⟨p0, p0b⟩, pe, pm, pn, ⟨p2, p2b⟩, ⟨p3, p3b⟩, ⟨p4, p4b⟩, ⟨p5, p5b⟩, ⟨p8, p8b⟩, ⟨p9, p9b⟩⟩ := id hp
  obtain ⟨p1, p1b⟩ := hp.n
  refine V.iconst C dX1_layDueDays_0 ?_
  refine V.istore_n C (lc2 := [(2, vi 0), (0, .ref (ad (8 + 2 * i))), (1, .ref (ad 1))]) dX1_layDueDays_1 (by decide) rfl ?_
  refine V.iconst C dX1_layDueDays_2 ?_
  refine V.istore_n C (lc2 := [(3, vi 0), (2, vi 0), (0, .ref (ad (8 + 2 * i))), (1, .ref (ad 1))]) dX1_layDueDays_3 (by decide) rfl ?_
  have loop4 : ∀ (f : Nat) (x : Int) (b : Bool) (M1 : Nat → Int → Int), (0 ≤ x) → (x ≤ 720) → (b = wb (wk h) (nom h q) (q 5) x.toNat) → (∀ k, k ≠ (8 + 2 * i + 1) → M1 k = M k) → (∀ j, M1 (8 + 2 * i + 1) j = if 0 ≤ j ∧ j < 720 ∧ dyS (q 5) j < x then bI (dueR h q j) else M (8 + 2 * i + 1) j) → ((720 - x).toNat < f) → V D 6 A p l e (rmL 3 0 0) s m args below meth c Q 0 0 (cl cy (sa 100) ad n M1) 4 [(3, vi x), (2, vi (bI b)), (0, .ref (ad (8 + 2 * i))), (1, .ref (ad 1))] [] := by
    intro f
    induction f with
    | zero => intro x b M1 e0 e1 e2 f1 f2 hf; exact absurd hf (Nat.not_lt_zero _)
    | succ f ih4 =>
      intro x b M1 e0 e1 e2 f1 f2 hf4
      obtain ⟨hk0, hk1, hk2, hk3, hk4, hk5, hk8, hk9⟩ := hk.same (f1 _ (by omega))
      have hc1 := hc.same (f1 2 (by omega)) (f1 3 (by omega)) (f1 4 (by omega))
      have hkk := hk.same (f1 _ (by omega))
      refine V.iload_n C dX1_layDueDays_4 0 rfl ?_
      refine V.sipush C dX1_layDueDays_5 (by decide) ?_
      refine V.icmp_ge C 100 dX1_layDueDays_8 (by decide) ⟨by omega, by omega⟩ ⟨by decide, by decide⟩ (fun h8 => ?_) (fun h8 => ?_)
      · skip
        rw [hQ]
        exact V.vret C dX1_layDueDays_100 (by decide) (by decide) (⟨rfl, M1, rfl, f1, fun d1 g0 g1 => by rw [f2 d1, if_pos ⟨g0, g1, by have := (dyS_rng (sh := q 5) g0 g1).2; omega⟩]⟩)
      · skip
        have join28 : ∀ (dd : Int), (dd = dyS (q 5) x) → V D 6 A p l e (rmL 3 0 0) s m args below meth c Q 0 0 (cl cy (sa 100) ad n M1) 28 [(3, vi x), (2, vi (bI b)), (0, .ref (ad (8 + 2 * i))), (1, .ref (ad 1))] [vi dd] := by
          intro dd hdd
          have hdr := dyS_rng (sh := q 5) e0 (show x < 720 by omega)
          rw [← hdd] at hdr
          obtain ⟨hdr0, hdr1⟩ := hdr
          refine V.istore C (lc2 := [(4, vi dd), (3, vi x), (2, vi (bI b)), (0, .ref (ad (8 + 2 * i))), (1, .ref (ad 1))]) dX1_layDueDays_28 (by decide) rfl ?_
          refine V.aload_n C dX1_layDueDays_30 4 rfl ?_
          refine V.iload C dX1_layDueDays_31 0 rfl ?_
          refine V.callV C (As := [vi dd]) (st := []) (wr := []) kV_X1_49 (c_works l D cy sa hfl ad n M1 h dd (by omega) (by omega) hc1.1) rfl 1 cl_1 rfl rfl rfl (Nat.le_of_ble_eq_true rfl) ⟨by decide, by decide⟩ ⟨by decide, by decide⟩ dX1_layDueDays_33 (fun _ _ h => h.elim) (fun v1 w2 r3 => ?_)
          obtain ⟨rfl, rfl⟩ := r3
          show V D 6 A p l e (rmL 3 0 0) s m args below meth c Q 0 0 (cl cy (sa 100) ad n M1) 36 [(4, vi dd), (3, vi x), (2, vi (bI b)), (0, .ref (ad (8 + 2 * i))), (1, .ref (ad 1))] [vi (bI (wk h dd))]
          refine V.istore C (lc2 := [(5, vi (bI (wk h dd))), (4, vi dd), (3, vi x), (2, vi (bI b)), (0, .ref (ad (8 + 2 * i))), (1, .ref (ad 1))]) dX1_layDueDays_36 (by decide) rfl ?_
          have join57 : ∀ (b2 : Bool), (b2 = (wb (wk h) (nom h q) (q 5) x.toNat || nom h q dd)) → V D 6 A p l e (rmL 3 0 0) s m args below meth c Q 0 0 (cl cy (sa 100) ad n M1) 57 [(5, vi (bI (wk h dd))), (4, vi dd), (3, vi x), (2, vi (bI b)), (0, .ref (ad (8 + 2 * i))), (1, .ref (ad 1))] [vi (bI b2)] := by
            intro b2 hb
            refine V.istore_n C (lc2 := [(2, vi (bI b2)), (5, vi (bI (wk h dd))), (4, vi dd), (3, vi x), (0, .ref (ad (8 + 2 * i))), (1, .ref (ad 1))]) dX1_layDueDays_57 (by decide) rfl ?_
            refine V.aload_n C dX1_layDueDays_58 4 rfl ?_
            refine V.getf C (v := .ref (ad (8 + 2 * i + 1))) (8 + 2 * i) (cl_r hi) rfl inX1 11 (by decide) fl_X1_27 (fun _ h => h) rfl dX1_layDueDays_59 ?_
            refine V.iload C dX1_layDueDays_62 2 rfl ?_
            refine V.iload C dX1_layDueDays_64 1 rfl ?_
            have join78 : ∀ (b3 : Bool), (b3 = (wk h dd && b2)) → V D 6 A p l e (rmL 3 0 0) s m args below meth c Q 0 0 (cl cy (sa 100) ad n M1) 78 [(2, vi (bI b2)), (5, vi (bI (wk h dd))), (4, vi dd), (3, vi x), (0, .ref (ad (8 + 2 * i))), (1, .ref (ad 1))] [vi (bI b3), vi dd, .ref (ad (8 + 2 * i + 1))] := by
              intro b3 hb2
              have hv : bI b3 = bI (dueR h q dd) := by rw [hb2, hb, hdd, dueR, due_at e0]
              refine V.zast C (8 + 2 * i + 1) (cl_d hi) (by omega) (by omega) (by decide) dX1_layDueDays_78 (put_d (q := i) (by omega)) ?_
              refine V.iload C dX1_layDueDays_79 1 rfl ?_
              refine V.if_neB C 92 dX1_layDueDays_81 (by decide) (fun h81 => ?_) (fun h81 => ?_)
              · skip
                refine V.iconst C dX1_layDueDays_92 ?_
                refine V.istore_n C (lc2 := [(2, vi 0), (5, vi (bI (wk h dd))), (4, vi dd), (3, vi x), (0, .ref (ad (8 + 2 * i))), (1, .ref (ad 1))]) dX1_layDueDays_93 (by decide) rfl ?_
                refine V.iinc C (lc2 := [(3, vi (x + 1)), (2, vi 0), (5, vi (bI (wk h dd))), (4, vi dd), (0, .ref (ad (8 + 2 * i))), (1, .ref (ad 1))]) dX1_layDueDays_94 3 rfl (by decide) rfl ?_
                refine V.goto C 4 dX1_layDueDays_97 (by decide) ?_
                exact V.sub [0, 1, 4, 5] rfl (ih4 (x + 1) false (upM M1 (8 + 2 * i + 1) dd (bI b3)) (by omega) (by omega) (wst e0 hb hdd hb2 (by first | exact Or.inl ⟨h81, rfl⟩ | exact Or.inr (Or.inl ⟨h89, rfl⟩) | exact Or.inr (Or.inr ⟨h81, h89, rfl⟩))) (fun k hk9 => (upM_off hk9).trans (f1 k hk9)) (dfill f2 e0 (by omega) hdd hv) (by omega))
              · skip
                refine V.aload_n C dX1_layDueDays_84 4 rfl ?_
                refine V.getf C (v := vi (q 5)) (8 + 2 * i) (cl_r hi) rfl inX1 5 (by decide) fl_X1_37 (fun _ h => h) (by show some _ = some _; rw [show (upM M1 (8 + 2 * i + 1) dd (bI b3)) (8 + 2 * i) = M1 (8 + 2 * i) from upM_off (by omega), hk5]) dX1_layDueDays_85 ?_
                refine V.iconst C dX1_layDueDays_88 ?_
                refine V.icmp_ne C 94 dX1_layDueDays_89 (by decide) ⟨by omega, by omega⟩ ⟨by decide, by decide⟩ (fun h89 => ?_) (fun h89 => ?_)
                · skip
                  refine V.iinc C (lc2 := [(3, vi (x + 1)), (2, vi (bI b2)), (5, vi (bI (wk h dd))), (4, vi dd), (0, .ref (ad (8 + 2 * i))), (1, .ref (ad 1))]) dX1_layDueDays_94 3 rfl (by decide) rfl ?_
                  refine V.goto C 4 dX1_layDueDays_97 (by decide) ?_
                  exact V.sub [0, 1, 4, 5] rfl (ih4 (x + 1) b2 (upM M1 (8 + 2 * i + 1) dd (bI b3)) (by omega) (by omega) (wst e0 hb hdd hb2 (by first | exact Or.inl ⟨h81, rfl⟩ | exact Or.inr (Or.inl ⟨h89, rfl⟩) | exact Or.inr (Or.inr ⟨h81, h89, rfl⟩))) (fun k hk9 => (upM_off hk9).trans (f1 k hk9)) (dfill f2 e0 (by omega) hdd hv) (by omega))
                · skip
                  refine V.iconst C dX1_layDueDays_92 ?_
                  refine V.istore_n C (lc2 := [(2, vi 0), (5, vi (bI (wk h dd))), (4, vi dd), (3, vi x), (0, .ref (ad (8 + 2 * i))), (1, .ref (ad 1))]) dX1_layDueDays_93 (by decide) rfl ?_
                  refine V.iinc C (lc2 := [(3, vi (x + 1)), (2, vi 0), (5, vi (bI (wk h dd))), (4, vi dd), (0, .ref (ad (8 + 2 * i))), (1, .ref (ad 1))]) dX1_layDueDays_94 3 rfl (by decide) rfl ?_
                  refine V.goto C 4 dX1_layDueDays_97 (by decide) ?_
                  exact V.sub [0, 1, 4, 5] rfl (ih4 (x + 1) false (upM M1 (8 + 2 * i + 1) dd (bI b3)) (by omega) (by omega) (wst e0 hb hdd hb2 (by first | exact Or.inl ⟨h81, rfl⟩ | exact Or.inr (Or.inl ⟨h89, rfl⟩) | exact Or.inr (Or.inr ⟨h81, h89, rfl⟩))) (fun k hk9 => (upM_off hk9).trans (f1 k hk9)) (dfill f2 e0 (by omega) hdd hv) (by omega))
            refine V.if_eqB C 77 dX1_layDueDays_66 (by decide) (fun h66 => ?_) (fun h66 => ?_)
            · skip
              refine V.iconst C dX1_layDueDays_77 ?_
              exact join78 false (by first | (rw [h66]; rfl) | (rw [h66, h70]; rfl))
            · skip
              refine V.iload_n C dX1_layDueDays_69 0 rfl ?_
              refine V.if_eqB C 77 dX1_layDueDays_70 (by decide) (fun h70 => ?_) (fun h70 => ?_)
              · skip
                refine V.iconst C dX1_layDueDays_77 ?_
                exact join78 false (by first | (rw [h66]; rfl) | (rw [h66, h70]; rfl))
              · skip
                refine V.iconst C dX1_layDueDays_73 ?_
                refine V.goto C 78 dX1_layDueDays_74 (by decide) ?_
                exact join78 true (by first | (rw [h66]; rfl) | (rw [h66, h70]; rfl))
          refine V.iload_n C dX1_layDueDays_38 3 rfl ?_
          refine V.if_neB C 52 dX1_layDueDays_39 (by decide) (fun h39 => ?_) (fun h39 => ?_)
          · skip
            refine V.iconst C dX1_layDueDays_52 ?_
            refine V.goto C 57 dX1_layDueDays_53 (by decide) ?_
            exact join57 true (by first | (rw [← e2, h39]; rfl) | (rw [← e2, h39, h49]; rfl))
          · skip
            refine V.aload_n C dX1_layDueDays_42 4 rfl ?_
            refine V.iload C dX1_layDueDays_43 1 rfl ?_
            refine V.aload_n C dX1_layDueDays_45 5 rfl ?_
            refine V.callV C (As := [vi dd, .ref (ad 1)]) (st := []) (wr := []) kV_X1_55 (c_isNominal l D cy sa hfl ad n M1 i hi h q dd (by omega) (by omega) hkk hp hc1) rfl (8 + 2 * i) (cl_r hi) rfl rfl rfl (Nat.le_of_ble_eq_true rfl) ⟨by decide, by decide⟩ ⟨by decide, by decide⟩ dX1_layDueDays_46 (fun _ _ h => h.elim) (fun v4 w5 r6 => ?_)
            obtain ⟨rfl, rfl⟩ := r6
            show V D 6 A p l e (rmL 3 0 0) s m args below meth c Q 0 0 (cl cy (sa 100) ad n M1) 49 [(5, vi (bI (wk h dd))), (4, vi dd), (3, vi x), (2, vi (bI b)), (0, .ref (ad (8 + 2 * i))), (1, .ref (ad 1))] [vi (bI (nom h q dd))]
            refine V.if_eqB C 56 dX1_layDueDays_49 (by decide) (fun h49 => ?_) (fun h49 => ?_)
            · skip
              refine V.iconst C dX1_layDueDays_56 ?_
              exact join57 false (by first | (rw [← e2, h39]; rfl) | (rw [← e2, h39, h49]; rfl))
            · skip
              refine V.iconst C dX1_layDueDays_52 ?_
              refine V.goto C 57 dX1_layDueDays_53 (by decide) ?_
              exact join57 true (by first | (rw [← e2, h39]; rfl) | (rw [← e2, h39, h49]; rfl))
        refine V.aload_n C dX1_layDueDays_11 2 rfl ?_
        refine V.getf C (v := vi (q 5)) (8 + 2 * i) (cl_r hi) rfl inX1 5 (by decide) fl_X1_37 (fun _ h => h) (by show some _ = some _; rw [hk5]) dX1_layDueDays_12 ?_
        refine V.iconst C dX1_layDueDays_15 ?_
        refine V.icmp_ne C 27 dX1_layDueDays_16 (by decide) ⟨by omega, by omega⟩ ⟨by decide, by decide⟩ (fun h16 => ?_) (fun h16 => ?_)
        · skip
          refine V.iload_n C dX1_layDueDays_27 0 rfl ?_
          exact join28 x (by first | rw [h16, dyS_1] | rw [dyS_n h16])
        · skip
          refine V.sipush C dX1_layDueDays_19 (by decide) ?_
          refine V.iload_n C dX1_layDueDays_22 0 rfl ?_
          refine V.isub C dX1_layDueDays_23 ?_
          refine V.goto C 28 dX1_layDueDays_24 (by decide) ?_
          exact join28 (719 - x) (by first | rw [h16, dyS_1] | rw [dyS_n h16])
  exact loop4 _ 0 false M (by omega) (by omega) rfl (fun _ _ => rfl) (fun j => (if_neg (fun z => by have := (dyS_rng (sh := q 5) z.1 z.2.1).1; omega)).symm) (Nat.lt_succ_self _)
