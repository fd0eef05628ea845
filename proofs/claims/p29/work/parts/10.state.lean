/-! STATE: the class's cells and the reference's, as functions of their numbers -/
def upM (M : Nat → Int → Int) (k : Nat) (j v : Int) : Nat → Int → Int := fun a b => if a = k ∧ b = j then v else M a b
theorem upM_s (M : Nat → Int → Int) (k : Nat) (j v : Int) : upM M k j v k j = v := by simp [upM]
theorem upM_n {M : Nat → Int → Int} {k a : Nat} {j b v : Int} (h : a ≠ k ∨ b ≠ j) : upM M k j v a b = M a b := by
  have h2 : ¬ (a = k ∧ b = j) := by rcases h with h | h <;> simp [h]
  simp [upM, h2]
def cN (n : Nat) : Nat := if n = 0 then 7 else 8 + 2 * n
abbrev arZ (cy : Nat → ClassId) (L : Nat) (f : Int → Int) : va_E := .inl (cy 1, L, .inl (fun j => zI (f j)))
abbrev arI (cy : Nat → ClassId) (L : Nat) (f : Int → Int) : va_E := .inl (cy 0, L, .inl (fun j => zI (f j)))
def ruleF (ad : Nat → Nat) (M : Nat → Int → Int) (k : Nat) : List Value := [vi (M k 0), vi (M k 1), vi (M k 2), vi (M k 3), vi (M k 4), vi (M k 5), vi (M k 6), vi (M k 7), vi (M k 8), vi (M k 9), vi (M k 10), .ref (ad (k + 1))]
def elF (ad : Nat → Nat) (n : Nat) : Nat → Option Nat := fun j => if j < n then some (ad (8 + 2 * j)) else none
def ce (cy : Nat → ClassId) (e0 : Nat) (ad : Nat → Nat) (n : Nat) (M : Nat → Int → Int) (k : Nat) : va_E :=
  if k = 0 then .inr (3, [.ref (ad 1), .ref (ad 5), vi (M 0 2), .ref (ad 6)])
  else if k = 1 then .inr (1, [.ref (ad 2), .ref (ad 3), .ref (ad 4)])
  else if k = 2 then arZ cy 720 (M 2)
  else if k = 3 then arI cy 720 (M 3)
  else if k = 4 then arI cy 720 (M 4)
  else if k = 5 then .inr (0, [vi (M 5 0), .ref (if n = 0 then e0 else ad 7), vi (n : Int)])
  else if k = 6 then arI cy 720 (M 6)
  else if k = 7 then .inl (cy 2, 10, .inr (.inr (.inr (.inr (elF ad n)))))
  else if k % 2 = 0 then .inr (2, ruleF ad M k)
  else arZ cy 720 (M k)
def cl (cy : Nat → ClassId) (e0 : Nat) (ad : Nat → Nat) (n : Nat) (M : Nat → Int → Int) : va_W := (List.range (cN n)).map fun k => (ad k, ce cy e0 ad n M k)
section CL
variable {cy : Nat → ClassId} {e0 : Nat} {ad : Nat → Nat} {n : Nat} {M : Nat → Int → Int}
theorem cl_get {k : Nat} (h : k < cN n) : (cl cy e0 ad n M)[k]? = some (ad k, ce cy e0 ad n M k) := by simp [cl, h]
theorem cN_7 {k : Nat} (h : k < 7) : k < cN n := by unfold cN; split <;> omega
theorem cN_r {i : Nat} (h : i < n) : 8 + 2 * i < cN n := by unfold cN; split <;> omega
theorem cN_d {i : Nat} (h : i < n) : 8 + 2 * i + 1 < cN n := by unfold cN; split <;> omega
theorem cl_0 : (cl cy e0 ad n M)[0]? = some (ad 0, .inr (3, [.ref (ad 1), .ref (ad 5), vi (M 0 2), .ref (ad 6)])) := cl_get (cN_7 (by decide))
theorem cl_1 : (cl cy e0 ad n M)[1]? = some (ad 1, .inr (1, [.ref (ad 2), .ref (ad 3), .ref (ad 4)])) := cl_get (cN_7 (by decide))
theorem cl_2 : (cl cy e0 ad n M)[2]? = some (ad 2, arZ cy 720 (M 2)) := cl_get (cN_7 (by decide))
theorem cl_3 : (cl cy e0 ad n M)[3]? = some (ad 3, arI cy 720 (M 3)) := cl_get (cN_7 (by decide))
theorem cl_4 : (cl cy e0 ad n M)[4]? = some (ad 4, arI cy 720 (M 4)) := cl_get (cN_7 (by decide))
theorem cl_5 : (cl cy e0 ad n M)[5]? = some (ad 5, .inr (0, [vi (M 5 0), .ref (if n = 0 then e0 else ad 7), vi (n : Int)])) := cl_get (cN_7 (by decide))
theorem cl_6 : (cl cy e0 ad n M)[6]? = some (ad 6, arI cy 720 (M 6)) := cl_get (cN_7 (by decide))
theorem cl_7 (h : 0 < n) : (cl cy e0 ad n M)[7]? = some (ad 7, .inl (cy 2, 10, .inr (.inr (.inr (.inr (elF ad n)))))) := cl_get (by unfold cN; split <;> omega)
theorem ce_rule {i : Nat} : ce cy e0 ad n M (8 + 2 * i) = .inr (2, ruleF ad M (8 + 2 * i)) := by
  have h : (8 + 2 * i) % 2 = 0 := by omega
  simp only [ce, h, if_true]
  rw [if_neg (by omega), if_neg (by omega), if_neg (by omega), if_neg (by omega), if_neg (by omega), if_neg (by omega), if_neg (by omega), if_neg (by omega)]
theorem ce_due {i : Nat} : ce cy e0 ad n M (8 + 2 * i + 1) = arZ cy 720 (M (8 + 2 * i + 1)) := by
  have h : ¬ (8 + 2 * i + 1) % 2 = 0 := by omega
  simp only [ce, h, if_false]
  rw [if_neg (by omega), if_neg (by omega), if_neg (by omega), if_neg (by omega), if_neg (by omega), if_neg (by omega), if_neg (by omega), if_neg (by omega)]
theorem cl_r {i : Nat} (h : i < n) : (cl cy e0 ad n M)[8 + 2 * i]? = some (ad (8 + 2 * i), .inr (2, ruleF ad M (8 + 2 * i))) := by rw [cl_get (cN_r h), ce_rule]
theorem cl_d {i : Nat} (h : i < n) : (cl cy e0 ad n M)[8 + 2 * i + 1]? = some (ad (8 + 2 * i + 1), arZ cy 720 (M (8 + 2 * i + 1))) := by rw [cl_get (cN_d h), ce_due]
theorem cl_set {k : Nat} {M2 : Nat → Int → Int} {e : va_E} (h : ∀ i, ce cy e0 ad n M2 i = if i = k then e else ce cy e0 ad n M i) : (cl cy e0 ad n M).set k (ad k, e) = cl cy e0 ad n M2 := by
  apply List.ext_getElem?
  intro i
  by_cases hi : i < cN n
  · rw [cl_get hi, h i]
    by_cases hk : i = k
    · subst hk
      rw [List.getElem?_set_self (by simp [cl, hi]), if_pos rfl]
    · rw [List.getElem?_set_ne (Ne.symm hk), if_neg hk, cl_get hi]
  · rw [List.getElem?_eq_none (by simp [cl]; omega), List.getElem?_eq_none (by simp [cl]; omega)]
theorem ar_upd {f : Int → Int} {i v : Int} (h0 : 0 ≤ i) : (upd (fun j : Nat => zI (f j)) i.toNat (zI v)) = fun j : Nat => zI (if (j : Int) = i then v else f j) := by
  funext j
  by_cases h : (j : Int) = i
  · rw [if_pos h, ← h, Int.toNat_natCast]
    simp [upd]
  · rw [if_neg h]
    have h2 : j ≠ i.toNat := by omega
    simp [upd, h2]
theorem upM_row {k : Nat} {j v : Int} : upM M k j v k = fun b => if b = j then v else M k b := by funext b; simp [upM]
theorem upM_off {k a : Nat} {j v : Int} (h : a ≠ k) : upM M k j v a = M a := by funext b; simp [upM, h]
theorem ruleF_off {k a : Nat} {j v : Int} (h : a ≠ k) : ruleF ad (upM M k j v) a = ruleF ad M a := by simp [ruleF, upM_off h]
theorem ce_off {k a : Nat} {j v : Int} (h : a ≠ k) : ce cy e0 ad n (upM M k j v) a = ce cy e0 ad n M a := by
  by_cases h0 : a = 0
  · subst h0; simp [ce, upM_off h]
  by_cases h1 : a = 1
  · subst h1; simp [ce]
  by_cases h2 : a = 2
  · subst h2; simp [ce, upM_off h]
  by_cases h3 : a = 3
  · subst h3; simp [ce, upM_off h]
  by_cases h4 : a = 4
  · subst h4; simp [ce, upM_off h]
  by_cases h5 : a = 5
  · subst h5; simp [ce, upM_off h]
  by_cases h6 : a = 6
  · subst h6; simp [ce, upM_off h]
  by_cases h7 : a = 7
  · subst h7; simp [ce]
  simp [ce, h0, h1, h2, h3, h4, h5, h6, h7, upM_off h, ruleF_off h]
theorem cl_put {k : Nat} {j v : Int} {e : va_E} (h : ce cy e0 ad n (upM M k j v) k = e) : (cl cy e0 ad n M).set k (ad k, e) = cl cy e0 ad n (upM M k j v) := by
  apply cl_set
  intro i
  by_cases hi : i = k
  · rw [if_pos hi, hi, h]
  · rw [if_neg hi, ce_off hi]
theorem put_0 {v : Int} : (cl cy e0 ad n M).set 0 (ad 0, .inr (3, [.ref (ad 1), .ref (ad 5), vi (M 0 2), .ref (ad 6)].set 2 (vi v))) = cl cy e0 ad n (upM M 0 2 v) := cl_put (by simp [ce, upM_s])
theorem put_2 {i v : Int} (h0 : 0 ≤ i) : (cl cy e0 ad n M).set 2 (ad 2, .inl (cy 1, 720, .inl (upd (fun j : Nat => zI (M 2 j)) i.toNat (zI v)))) = cl cy e0 ad n (upM M 2 i v) := cl_put (by simp only [ce, upM_row, ar_upd h0]; rfl)
theorem put_3 {i v : Int} (h0 : 0 ≤ i) : (cl cy e0 ad n M).set 3 (ad 3, .inl (cy 0, 720, .inl (upd (fun j : Nat => zI (M 3 j)) i.toNat (zI v)))) = cl cy e0 ad n (upM M 3 i v) := cl_put (by simp only [ce, upM_row, ar_upd h0]; rfl)
theorem put_4 {i v : Int} (h0 : 0 ≤ i) : (cl cy e0 ad n M).set 4 (ad 4, .inl (cy 0, 720, .inl (upd (fun j : Nat => zI (M 4 j)) i.toNat (zI v)))) = cl cy e0 ad n (upM M 4 i v) := cl_put (by simp only [ce, upM_row, ar_upd h0]; rfl)
theorem put_6 {i v : Int} (h0 : 0 ≤ i) : (cl cy e0 ad n M).set 6 (ad 6, .inl (cy 0, 720, .inl (upd (fun j : Nat => zI (M 6 j)) i.toNat (zI v)))) = cl cy e0 ad n (upM M 6 i v) := cl_put (by simp only [ce, upM_row, ar_upd h0]; rfl)
theorem put_d {q : Nat} {i v : Int} (h0 : 0 ≤ i) : (cl cy e0 ad n M).set (8 + 2 * q + 1) (ad (8 + 2 * q + 1), .inl (cy 1, 720, .inl (upd (fun j : Nat => zI (M (8 + 2 * q + 1) j)) i.toNat (zI v)))) = cl cy e0 ad n (upM M (8 + 2 * q + 1) i v) := cl_put (by rw [ce_due, upM_row, ar_upd h0])
theorem put_r {q j : Nat} {v : Int} (hj : j < 11) : (cl cy e0 ad n M).set (8 + 2 * q) (ad (8 + 2 * q), .inr (2, (ruleF ad M (8 + 2 * q)).set j (vi v))) = cl cy e0 ad n (upM M (8 + 2 * q) j v) := by
  apply cl_put
  rw [ce_rule]
  match j, hj with
  | 0, _ | 1, _ | 2, _ | 3, _ | 4, _ | 5, _ | 6, _ | 7, _ | 8, _ | 9, _ | 10, _ => simp [ruleF, upM]
theorem ld_ar {f : Int → Int} {i : Int} (h0 : 0 ≤ i) {v : Int} (hv : f i = v) : (fun j : Nat => zI (f j)) i.toNat = zI v := by
  show zI (f (i.toNat : Int)) = zI v
  rw [Int.toNat_of_nonneg h0, hv]
end CL
/-- the calendar alone; a rule with the calendar -/
def kl (cy : Nat → ClassId) (ad : Nat → Nat) (M : Nat → Int → Int) : va_W := [(ad 1, .inr (1, [.ref (ad 2), .ref (ad 3), .ref (ad 4)])), (ad 2, arZ cy 720 (M 2)), (ad 3, arI cy 720 (M 3)), (ad 4, arI cy 720 (M 4))]
def rl (cy : Nat → ClassId) (ad : Nat → Nat) (i : Nat) (M : Nat → Int → Int) : va_W := [(ad (8 + 2 * i), .inr (2, ruleF ad M (8 + 2 * i))), (ad (8 + 2 * i + 1), arZ cy 720 (M (8 + 2 * i + 1))), (ad 1, .inr (1, [.ref (ad 2), .ref (ad 3), .ref (ad 4)])), (ad 2, arZ cy 720 (M 2)), (ad 3, arI cy 720 (M 3)), (ad 4, arI cy 720 (M 4))]
section KL
variable {cy : Nat → ClassId} {ad : Nat → Nat} {M : Nat → Int → Int} {i : Nat}
theorem kput_2 {j v : Int} (h0 : 0 ≤ j) : (kl cy ad M).set 1 (ad 2, .inl (cy 1, 720, .inl (upd (fun j : Nat => zI (M 2 j)) j.toNat (zI v)))) = kl cy ad (upM M 2 j v) := by rw [ar_upd h0]; simp [kl, upM]
theorem kput_3 {j v : Int} (h0 : 0 ≤ j) : (kl cy ad M).set 2 (ad 3, .inl (cy 0, 720, .inl (upd (fun j : Nat => zI (M 3 j)) j.toNat (zI v)))) = kl cy ad (upM M 3 j v) := by rw [ar_upd h0]; simp [kl, upM]
theorem kput_4 {j v : Int} (h0 : 0 ≤ j) : (kl cy ad M).set 3 (ad 4, .inl (cy 0, 720, .inl (upd (fun j : Nat => zI (M 4 j)) j.toNat (zI v)))) = kl cy ad (upM M 4 j v) := by rw [ar_upd h0]; simp [kl, upM]
theorem rput_d {j v : Int} (h0 : 0 ≤ j) : (rl cy ad i M).set 1 (ad (8 + 2 * i + 1), .inl (cy 1, 720, .inl (upd (fun j : Nat => zI (M (8 + 2 * i + 1) j)) j.toNat (zI v)))) = rl cy ad i (upM M (8 + 2 * i + 1) j v) := by
  have h2 : (2 : Nat) ≠ 8 + 2 * i + 1 := by omega
  have h3 : (3 : Nat) ≠ 8 + 2 * i + 1 := by omega
  have h4 : (4 : Nat) ≠ 8 + 2 * i + 1 := by omega
  have hr : 8 + 2 * i ≠ 8 + 2 * i + 1 := by omega
  rw [ar_upd h0]
  simp only [rl, upM_row, upM_off h2, upM_off h3, upM_off h4, ruleF_off hr, List.set_cons_succ, List.set_cons_zero]
end KL
