/-! a rule comes: the cells before and behind -/
section GROW
variable {cy : Nat → ClassId} {e0 : Nat} {ad : Nat → Nat} {n : Nat} {M : Nat → Int → Int}
def cc (cy : Nat → ClassId) (e0 : Nat) (ad : Nat → Nat) (n : Nat) (M : Nat → Int → Int) (k : Nat) : Nat × va_E := (ad k, ce cy e0 ad n M k)
def rls (cy : Nat → ClassId) (e0 : Nat) (ad : Nat → Nat) (n : Nat) (M : Nat → Int → Int) : va_W := (List.range (2 * n)).map fun k => cc cy e0 ad n M (8 + k)
def tl (cy : Nat → ClassId) (e0 : Nat) (ad : Nat → Nat) (n : Nat) (M : Nat → Int → Int) : va_W := if n = 0 then [] else cc cy e0 ad n M 7 :: rls cy e0 ad n M
def RR (ad : Nat → Nat) (n : Nat) (M : Nat → Int → Int) : Nat × va_E := (ad (8 + 2 * n), .inr (2, ruleF ad M (8 + 2 * n)))
def DD (cy : Nat → ClassId) (ad : Nat → Nat) (n : Nat) (M : Nat → Int → Int) : Nat × va_E := (ad (8 + 2 * n + 1), arZ cy 720 (M (8 + 2 * n + 1)))
theorem apl {α : Type} {l r : List α} {i : Nat} {x : α} (h : l[i]? = some x) : (l ++ r)[i]? = some x := by
  rw [List.getElem?_append_left (List.getElem?_eq_some_iff.mp h).1]; exact h
theorem cl_split : cl cy e0 ad n M = cc cy e0 ad n M 0 :: cc cy e0 ad n M 1 :: cc cy e0 ad n M 2 :: cc cy e0 ad n M 3 :: cc cy e0 ad n M 4 :: cc cy e0 ad n M 5 :: cc cy e0 ad n M 6 :: tl cy e0 ad n M := by
  apply List.ext_getElem?
  intro i
  match i with
  | 0 => exact cl_get (cN_7 (by decide))
  | 1 => exact cl_get (cN_7 (by decide))
  | 2 => exact cl_get (cN_7 (by decide))
  | 3 => exact cl_get (cN_7 (by decide))
  | 4 => exact cl_get (cN_7 (by decide))
  | 5 => exact cl_get (cN_7 (by decide))
  | 6 => exact cl_get (cN_7 (by decide))
  | i + 7 =>
    show _ = (tl cy e0 ad n M)[i]?
    by_cases h : n = 0
    · rw [tl, if_pos h, List.getElem?_eq_none (by simp [cl, cN, h])]
      rfl
    · rw [tl, if_neg h]
      have e : cN n = 8 + 2 * n := if_neg h
      match i with
      | 0 => exact cl_get (by omega)
      | k + 1 =>
        show _ = (rls cy e0 ad n M)[k]?
        by_cases hk : k < 2 * n
        · rw [cl_get (by omega)]
          simp only [rls, List.getElem?_map, List.getElem?_range hk, Option.map_some, cc]
          rw [show k + 1 + 7 = 8 + k by omega]
        · rw [List.getElem?_eq_none (by simp [cl]; omega), List.getElem?_eq_none (by simp [rls]; omega)]
def wrA (cy : Nat → ClassId) (e0 : Nat) (ad : Nat → Nat) (n : Nat) (M : Nat → Int → Int) : va_W := [cc cy e0 ad n M 0, cc cy e0 ad n M 5, cc cy e0 ad n M 6] ++ tl cy e0 ad n M
def wrB (cy : Nat → ClassId) (e0 : Nat) (ad : Nat → Nat) (n : Nat) (M : Nat → Int → Int) : va_W := [cc cy e0 ad n M 0, cc cy e0 ad n M 1, cc cy e0 ad n M 2, cc cy e0 ad n M 3, cc cy e0 ad n M 4, cc cy e0 ad n M 6] ++ (rls cy e0 ad n M ++ [DD cy ad n M])
theorem prmA {α : Type} (a0 a1 a2 a3 a4 a5 a6 r d : α) (T : List α) : ((a0 :: a1 :: a2 :: a3 :: a4 :: a5 :: a6 :: T) ++ [r, d]).Perm (([a0, a5, a6] ++ T) ++ [r, d, a1, a2, a3, a4]) := by
  classical
  rw [List.perm_iff_count]
  intro x
  simp only [List.count_append, List.count_cons, List.count_nil]
  omega
theorem prmB0 {α : Type} (a0 a1 a2 a3 a4 a5 a6 r d : α) : ((a0 :: a1 :: a2 :: a3 :: a4 :: a5 :: a6 :: []) ++ [r, d]).Perm (([a0, a1, a2, a3, a4, a6] ++ ([] ++ [d])) ++ [a5, r]) := by
  classical
  rw [List.perm_iff_count]
  intro x
  simp only [List.count_append, List.count_cons, List.count_nil]
  omega
theorem prmBN {α : Type} (a0 a1 a2 a3 a4 a5 a6 a7 r d : α) (T : List α) : ((a0 :: a1 :: a2 :: a3 :: a4 :: a5 :: a6 :: a7 :: T) ++ [r, d]).Perm (([a0, a1, a2, a3, a4, a6] ++ (T ++ [d])) ++ [a5, r, a7]) := by
  classical
  rw [List.perm_iff_count]
  intro x
  simp only [List.count_append, List.count_cons, List.count_nil]
  omega
theorem prmC {α : Type} (a0 a1 a2 a3 a4 a5 a6 a7 r d : α) (T : List α) : (([a0, a1, a2, a3, a4, a6] ++ (T ++ [d])) ++ [a5, r, a7]).Perm (a0 :: a1 :: a2 :: a3 :: a4 :: a5 :: a6 :: a7 :: (T ++ [r, d])) := by
  classical
  rw [List.perm_iff_count]
  intro x
  simp only [List.count_append, List.count_cons, List.count_nil]
  omega
theorem permA : (cl cy e0 ad n M ++ [RR ad n M, DD cy ad n M]).Perm (wrA cy e0 ad n M ++ rl cy ad n M) := by
  rw [cl_split]
  exact prmA _ _ _ _ _ _ _ _ _ _
theorem permB0 : (cl cy e0 ad 0 M ++ [RR ad 0 M, DD cy ad 0 M]).Perm (wrB cy e0 ad 0 M ++ [(ad 5, .inr (0, [vi (M 5 0), .ref e0, vi 0])), RR ad 0 M]) := by
  rw [cl_split]
  exact prmB0 _ _ _ _ _ _ _ _ _
theorem permBN (h : 0 < n) : (cl cy e0 ad n M ++ [RR ad n M, DD cy ad n M]).Perm (wrB cy e0 ad n M ++ [(ad 5, .inr (0, [vi (M 5 0), .ref (ad 7), vi (n : Int)])), RR ad n M, (ad 7, .inl (cy 2, 10, .inr (.inr (.inr (.inr (elF ad n))))))]) := by
  rw [cl_split, tl, if_neg (by omega)]
  have e : cc cy e0 ad n M 5 = (ad 5, .inr (0, [vi (M 5 0), .ref (ad 7), vi (n : Int)])) := by
    show (ad 5, _) = _
    have : ¬ n = 0 := by omega
    simp [ce, this]
  rw [← e]
  exact prmBN _ _ _ _ _ _ _ _ _ _ _
theorem ce_hi {n2 k : Nat} (h : 8 ≤ k) : ce cy e0 ad n2 M k = ce cy e0 ad n M k := by
  have h0 : k ≠ 0 := by omega
  have h1 : k ≠ 1 := by omega
  have h2 : k ≠ 2 := by omega
  have h3 : k ≠ 3 := by omega
  have h4 : k ≠ 4 := by omega
  have h5 : k ≠ 5 := by omega
  have h6 : k ≠ 6 := by omega
  have h7 : k ≠ 7 := by omega
  simp only [ce, h0, h1, h2, h3, h4, h5, h6, h7, if_false]
theorem ce_lo {n2 : Nat} {v : Int} {k : Nat} (h : k ≠ 5) (h7 : k ≠ 7) : ce cy e0 ad n2 (upM M 5 0 v) k = ce cy e0 ad n M k := by
  rw [ce_off h]
  simp only [ce, h, h7, if_false]
theorem elF_up : va_up (elF ad n) ((n : Int)).toNat (some (ad (8 + 2 * n))) = elF ad (n + 1) := by
  funext j
  rw [Int.toNat_natCast]
  unfold va_up elF
  by_cases h : j = n
  · subst h; simp
  · simp only [h, if_false]
    by_cases h2 : j < n
    · rw [if_pos h2, if_pos (by omega)]
    · rw [if_neg h2, if_neg (by omega)]
theorem elF_0 : va_up (fun _ => none) (0 : Int).toNat (some (ad (8 + 2 * 0))) = elF ad 1 := by
  funext j
  show (if j = 0 then some (ad (8 + 2 * 0)) else none) = if j < 1 then some (ad (8 + 2 * j)) else none
  by_cases h : j = 0
  · subst h; simp
  · rw [if_neg h, if_neg (by omega)]
theorem rls_up {v : Int} : rls cy e0 ad (n + 1) (upM M 5 0 v) = rls cy e0 ad n M ++ [RR ad n M, DD cy ad n M] := by
  unfold rls
  rw [show 2 * (n + 1) = 2 * n + 1 + 1 by omega, List.range_succ, List.range_succ, List.map_append, List.map_append, List.append_assoc]
  have e : ∀ k, cc cy e0 ad (n + 1) (upM M 5 0 v) (8 + k) = cc cy e0 ad n M (8 + k) := fun k => by
    show (ad (8 + k), _) = (ad (8 + k), _)
    rw [ce_lo (n := n) (by omega) (by omega)]
  congr 1
  · exact List.map_congr_left fun k _ => e k
  · show [cc cy e0 ad (n + 1) (upM M 5 0 v) (8 + 2 * n), cc cy e0 ad (n + 1) (upM M 5 0 v) (8 + (2 * n + 1))] = _
    rw [e, e]
    show [(ad (8 + 2 * n), ce cy e0 ad n M (8 + 2 * n)), (ad (8 + 2 * n + 1), ce cy e0 ad n M (8 + 2 * n + 1))] = _
    rw [ce_rule, ce_due]; rfl
theorem permC : (wrB cy e0 ad n M ++ [(ad 5, .inr (0, [vi (M 5 0 + 1), .ref (ad 7), vi ((n : Int) + 1)])), RR ad n M, (ad 7, .inl (cy 2, 10, .inr (.inr (.inr (.inr (elF ad (n + 1)))))))]).Perm (cl cy e0 ad (n + 1) (upM M 5 0 (M 5 0 + 1))) := by
  rw [cl_split, tl, if_neg (by omega), rls_up]
  have g : ∀ k, k ≠ 5 → k ≠ 7 → cc cy e0 ad (n + 1) (upM M 5 0 (M 5 0 + 1)) k = cc cy e0 ad n M k := fun k h5 h7 => by
    show (ad k, _) = (ad k, _)
    rw [ce_lo (n := n) h5 h7]
  have g5 : cc cy e0 ad (n + 1) (upM M 5 0 (M 5 0 + 1)) 5 = (ad 5, .inr (0, [vi (M 5 0 + 1), .ref (ad 7), vi ((n : Int) + 1)])) := by
    show (ad 5, _) = _
    simp [ce, upM_s]
  have g7 : cc cy e0 ad (n + 1) (upM M 5 0 (M 5 0 + 1)) 7 = (ad 7, .inl (cy 2, 10, .inr (.inr (.inr (.inr (elF ad (n + 1))))))) := rfl
  rw [g 0 (by decide) (by decide), g 1 (by decide) (by decide), g 2 (by decide) (by decide), g 3 (by decide) (by decide), g 4 (by decide) (by decide), g 6 (by decide) (by decide), g5, g7]
  exact prmC _ _ _ _ _ _ _ _ _ _ _
theorem ce_cong {ad2 : Nat → Nat} {M2 : Nat → Int → Int} (ha : ∀ k, k < 8 + 2 * n → (k ≠ 7 ∨ n ≠ 0) → ad2 k = ad k) (hM : ∀ k, k < 8 + 2 * n → M2 k = M k) {k : Nat} (hk : k < 8 + 2 * n) (hk7 : k ≠ 7 ∨ n ≠ 0) : cc cy e0 ad2 n M2 k = cc cy e0 ad n M k := by
  show (ad2 k, _) = (ad k, _)
  rw [ha k hk hk7]
  congr 1
  have m : M2 k = M k := hM k hk
  have el : elF ad2 n = elF ad n := by
    funext j
    unfold elF
    split
    · rw [ha _ (by omega) (by omega)]
    · rfl
  have a7 : (if n = 0 then e0 else ad2 7) = (if n = 0 then e0 else ad 7) := by
    by_cases h : n = 0
    · rw [if_pos h, if_pos h]
    · rw [if_neg h, if_neg h, ha 7 (by omega) (Or.inr h)]
  by_cases h8 : k < 8
  · rcases (show k = 0 ∨ k = 1 ∨ k = 2 ∨ k = 3 ∨ k = 4 ∨ k = 5 ∨ k = 6 ∨ k = 7 by omega) with h | h | h | h | h | h | h | h <;> subst h
    · simp only [ce, if_true, m, ha 1 (by omega) (by omega), ha 5 (by omega) (by omega), ha 6 (by omega) (by omega)]
    · simp only [ce, if_true, ha 2 (by omega) (by omega), ha 3 (by omega) (by omega), ha 4 (by omega) (by omega)]; rfl
    · simp [ce, m]
    · simp [ce, m]
    · simp [ce, m]
    · show Sum.inr _ = Sum.inr _
      rw [m, a7]
    · simp [ce, m]
    · simp [ce, el]
  · obtain ⟨i, hi⟩ : ∃ i, k = 8 + 2 * i ∨ k = 8 + 2 * i + 1 := ⟨(k - 8) / 2, by omega⟩
    rcases hi with hi | hi
    · subst hi
      rw [ce_rule, ce_rule, ruleF, ruleF, m, ha _ (by omega) (by omega)]
    · subst hi
      rw [ce_due, ce_due, m]
theorem rls_cong {ad2 : Nat → Nat} {M2 : Nat → Int → Int} (ha : ∀ k, k < 8 + 2 * n → (k ≠ 7 ∨ n ≠ 0) → ad2 k = ad k) (hM : ∀ k, k < 8 + 2 * n → M2 k = M k) : rls cy e0 ad2 n M2 = rls cy e0 ad n M := by
  unfold rls
  exact List.map_congr_left fun k hk => ce_cong ha hM (by have := List.mem_range.mp hk; omega) (by omega)
theorem tl_cong {ad2 : Nat → Nat} {M2 : Nat → Int → Int} (ha : ∀ k, k < 8 + 2 * n → (k ≠ 7 ∨ n ≠ 0) → ad2 k = ad k) (hM : ∀ k, k < 8 + 2 * n → M2 k = M k) : tl cy e0 ad2 n M2 = tl cy e0 ad n M := by
  unfold tl
  split
  · rfl
  · rw [ce_cong ha hM (by omega) (by omega), rls_cong ha hM]
theorem cl_cong {ad2 : Nat → Nat} {M2 : Nat → Int → Int} (ha : ∀ k, k < 8 + 2 * n → (k ≠ 7 ∨ n ≠ 0) → ad2 k = ad k) (hM : ∀ k, k < 8 + 2 * n → M2 k = M k) : cl cy e0 ad2 n M2 = cl cy e0 ad n M := by
  rw [cl_split, cl_split, tl_cong ha hM, ce_cong ha hM (by omega) (by omega), ce_cong ha hM (by omega) (by omega), ce_cong ha hM (by omega) (by omega), ce_cong ha hM (by omega) (by omega), ce_cong ha hM (by omega) (by omega), ce_cong ha hM (by omega) (by omega), ce_cong ha hM (by omega) (by omega)]
theorem wrA_cong {M2 : Nat → Int → Int} (hM : ∀ k, k < 8 + 2 * n → M2 k = M k) : wrA cy e0 ad n M2 = wrA cy e0 ad n M := by
  unfold wrA
  rw [tl_cong (fun _ _ _ => rfl) hM, ce_cong (fun _ _ _ => rfl) hM (by omega) (by omega), ce_cong (fun _ _ _ => rfl) hM (by omega) (by omega), ce_cong (fun _ _ _ => rfl) hM (by omega) (by omega)]
theorem wrB_cong0 {ad2 : Nat → Nat} (ha : ∀ k, k ≠ 7 → ad2 k = ad k) : wrB cy e0 ad2 0 M = wrB cy e0 ad 0 M := by
  unfold wrB DD
  rw [rls_cong (fun k _ h => ha k (by omega)) (fun _ _ => rfl), ce_cong (fun k _ h => ha k (by omega)) (fun _ _ => rfl) (by omega) (by omega), ce_cong (fun k _ h => ha k (by omega)) (fun _ _ => rfl) (by omega) (by omega), ce_cong (fun k _ h => ha k (by omega)) (fun _ _ => rfl) (by omega) (by omega), ce_cong (fun k _ h => ha k (by omega)) (fun _ _ => rfl) (by omega) (by omega), ce_cong (fun k _ h => ha k (by omega)) (fun _ _ => rfl) (by omega) (by omega), ce_cong (fun k _ h => ha k (by omega)) (fun _ _ => rfl) (by omega) (by omega), ha _ (by omega)]
/-- the new rule's numbers, the addresses and the memory with it -/
def pN (kd nn fs ef va sh : Int) : Nat → Int
  | 0 => kd | 1 => nn | 2 => fs | 3 => ef | 4 => va | 5 => sh | 6 => 0 | 7 => 0 | 8 => 0 | _ => -1
def adA (ad : Nat → Nat) (n b1 b2 : Nat) : Nat → Nat := fun k => if k = 8 + 2 * n then b1 else if k = 8 + 2 * n + 1 then b2 else ad k
def MA (M : Nat → Int → Int) (n : Nat) (pf : Nat → Int) : Nat → Int → Int := fun k j => if k = 8 + 2 * n then pf j.toNat else if k = 8 + 2 * n + 1 then 0 else M k j
def qA (q : Nat → Nat → Int) (n : Nat) (pf : Nat → Int) : Nat → Nat → Int := fun i j => if i = n then pf j else q i j
def mA (f : Nat → Nat) (n : Nat) : Nat → Nat := fun i => if i = n then 0 else f i
theorem addW {b1 b2 : Nat} {kd nn fs ef va sh : Int} : cl cy e0 ad n M ++ [(b1, .inr (2, [vi kd, vi nn, vi fs, vi ef, vi va, vi sh, vi 0, vi 0, vi 0, vi (-1), vi (-1), .ref b2])), (b2, arZ cy 720 (fun _ => 0))] = cl cy e0 (adA ad n b1 b2) n (MA M n (pN kd nn fs ef va sh)) ++ [RR (adA ad n b1 b2) n (MA M n (pN kd nn fs ef va sh)), DD cy (adA ad n b1 b2) n (MA M n (pN kd nn fs ef va sh))] := by
  have e : cl cy e0 (adA ad n b1 b2) n (MA M n (pN kd nn fs ef va sh)) = cl cy e0 ad n M := cl_cong (fun k hk _ => by unfold adA; rw [if_neg (by omega), if_neg (by omega)]) (fun k hk => by funext j; unfold MA; rw [if_neg (by omega), if_neg (by omega)])
  rw [e]
  congr 1
  have a1 : adA ad n b1 b2 (8 + 2 * n) = b1 := if_pos rfl
  have a2 : adA ad n b1 b2 (8 + 2 * n + 1) = b2 := by unfold adA; rw [if_neg (by omega), if_pos rfl]
  have d0 : MA M n (pN kd nn fs ef va sh) (8 + 2 * n + 1) = fun _ => 0 := by funext j; unfold MA; rw [if_neg (by omega), if_pos rfl]
  have r0 : ∀ j, MA M n (pN kd nn fs ef va sh) (8 + 2 * n) j = pN kd nn fs ef va sh j.toNat := fun j => if_pos rfl
  simp only [RR, DD, a1, a2, d0, ruleF, r0]
  rfl
theorem RF.new {pf : Nat → Int} : RF (MA M n pf) (8 + 2 * n) pf := by
  have r0 : ∀ j, MA M n pf (8 + 2 * n) j = pf j.toNat := fun j => if_pos rfl
  exact ⟨r0 0, r0 1, r0 2, r0 3, r0 4, r0 5, r0 8, r0 9⟩
theorem MA_n {pf : Nat → Int} {k : Nat} (h1 : k ≠ 8 + 2 * n) (h2 : k ≠ 8 + 2 * n + 1) : MA M n pf k = M k := by
  funext j; unfold MA; rw [if_neg h1, if_neg h2]
end GROW
