/-! THE REFERENCE'S TEXT -/
theorem m_isOf {F : Nat} {c k : Int} {M : cM} (c0 : 0 ≤ c) (c1 : c < 65536) (k0 : 0 ≤ k) (k1 : k < 4) : f_X12_isOf F (I c) (I k) M = some (if ofK c k then I 1 else I 0, M) := by
  simp only [f_X12_isOf, f_X12_isOf_0, b_X12_isOf_0]
  have h : k = 0 ∨ k = 1 ∨ k = 2 ∨ k = 3 := by omega
  rcases h with rfl | rfl | rfl | rfl
  · rw [if_pos I00, m_isDigit c0 c1, Option.bind_some]
    by_cases g : isDig c
    · simp only [if_pos g]
      rw [if_pos (show ofK c 0 by omega)]
      rfl
    · simp only [if_neg g]
      rw [if_neg (show ¬ ofK c 0 by omega)]
      rfl
  · rw [if_neg (show ¬ I 1 = 0 by decide), if_pos (show I 1 = 1 by decide), m_isLetter c0 c1, Option.bind_some]
    by_cases g : isCap c ∨ isSml c
    · simp only [if_pos g]
      rw [if_pos (show ofK c 1 by omega)]
      rfl
    · simp only [if_neg g]
      rw [if_neg (show ¬ ofK c 1 by omega)]
      rfl
  · rw [if_neg (show ¬ I 2 = 0 by decide), if_neg (show ¬ I 2 = 1 by decide), if_pos (show I 2 = 2 by decide), show (65 : Int32) = I 65 from rfl, show (90 : Int32) = I 90 from rfl, m_isIn (by omega) (by omega) (by decide) (by decide) (by decide) (by decide), Option.bind_some]
    by_cases g : isCap c
    · simp only [if_pos g]
      rw [if_pos (show ofK c 2 by omega)]
      rfl
    · simp only [if_neg g]
      rw [if_neg (show ¬ ofK c 2 by omega)]
      rfl
  · rw [if_neg (show ¬ I 3 = 0 by decide), if_neg (show ¬ I 3 = 1 by decide), if_neg (show ¬ I 3 = 2 by decide)]
    have e : (I c = 32) = (c = 32) := I_eq (b := 32) (by omega) (by omega) (by decide) (by decide)
    by_cases g : c = 32
    · rw [if_pos (e.mpr g), if_neg (show ¬ ofK c 3 by omega)]
      rfl
    · rw [if_neg (fun q => g (e.mp q)), if_pos (show ofK c 3 by omega)]
      rfl
def cq (f g : Nat → Int32) (o n j : Nat) : Nat → Int32 := fun i => if j ≤ i ∧ i < n then f (o + i) else g i
section
variable {F : Nat}
theorem m_takes8 {x1 K N : Nat} (hK : K ≠ 605) (hsrc : ∀ (tx : Nat → ZText) pg le ln tk bd vi va vl vj la me (i : Int), 0 ≤ i → i < N → aI 0 (mk (tx, pg, le, ln, tk, bd, vi, va, vl, vj, la, me)) x1 (I i) = some (va K i.toNat)) {o n : Nat} (hn : n ≤ 20) (ho : o + n ≤ N) (hN : N ≤ 2000) : ∀ (m j : Nat) (tx : Nat → ZText) pg le ln tk bd vi va vl vj la me, j ≤ n → n + 1 - j ≤ m → f_X12_takes_8 F m aModel x1 (I o) (I n) (I j) (mk (tx, pg, le, ln, tk, bd, vi, va, vl, vj, la, me)) = f_X12_laysRuns F aModel (mk (tx, pg, le, ln, tk, bd, vi, (up va 605 (cq (va K) (va 605) o n j)), vl, vj, la, me)) := by
  intro m
  induction m with
  | zero => intro j; intros; omega
  | succ m ih =>
    intro j tx pg le ln tk bd vi va vl vj la me hj hm
    show b_X12_takes_8 F (f_X12_takes_8 F m) aModel x1 (I o) (I n) (I j) (mk (tx, pg, le, ln, tk, bd, vi, va, vl, vj, la, me)) = _
    unfold b_X12_takes_8
    have e : (I n ≤ I j) = ((n : Int) ≤ j) := I_le (by omega) (by omega) (by omega) (by omega)
    by_cases h : n ≤ j
    · have hcq : up va 605 (cq (va K) (va 605) o n j) = va := by
        funext i
        unfold up
        by_cases hi : i = 605
        · rw [if_pos hi, hi]
          funext x
          unfold cq
          rw [if_neg (by omega)]
        · rw [if_neg hi]
      rw [if_pos (e.mpr (by omega)), hcq]
      cases f_X12_laysRuns F aModel (mk (tx, pg, le, ln, tk, bd, vi, va, vl, vj, la, me)) <;> rfl
    · rw [if_neg (fun q => h (by have := e.mp q; omega)), gModel_text, Option.bind_some, I_add, hsrc _ _ _ _ _ _ _ _ _ _ _ _ _ (by omega) (by omega), Option.bind_some, wModel_text (by omega) (by omega), Option.bind_some, show (1 : Int32) = I ((1 : Nat) : Int) from rfl, I_add, show ((j : Int) + ((1 : Nat) : Int)) = ((j + 1 : Nat) : Int) by omega, ih (j + 1) _ _ _ _ _ _ _ _ _ _ _ _ (by omega) (by omega)]
      rw [up_up, up_same, up_ne hK]
      have hcq : cq (va K) (upd (va 605) (j : Int).toNat (va K ((o : Int) + (j : Int)).toNat)) o n (j + 1) = cq (va K) (va 605) o n j := by
        funext i
        unfold cq upd
        rw [show ((o : Int) + (j : Int)).toNat = o + j by omega, show ((j : Int).toNat) = j by omega]
        by_cases hi : i = j
        · rw [if_neg (by omega), if_pos hi, if_pos (by omega), hi]
        · by_cases h5 : j + 1 ≤ i ∧ i < n
          · rw [if_pos h5, if_pos (by omega)]
          · rw [if_neg h5, if_neg hi, if_neg (by omega)]
      rw [hcq]
theorem m_takes {x1 K N : Nat} {tx pg le ln tk bd vi va vl vj la me} (hK : K ≠ 605) (hsrc : ∀ (tx : Nat → ZText) pg le ln tk bd vi va vl vj la me (i : Int), 0 ≤ i → i < N → aI 0 (mk (tx, pg, le, ln, tk, bd, vi, va, vl, vj, la, me)) x1 (I i) = some (va K i.toNat)) {o n : Nat} (hn : n ≤ 20) (ho : o + n ≤ N) (hN : N ≤ 2000) (hF : 21 ≤ F) : f_X12_takes F aModel x1 (I o) (I n) (mk (tx, pg, le, ln, tk, bd, vi, va, vl, vj, la, me)) = f_X12_laysRuns F aModel (mk (tx, pg, le, ln, tk, bd, (up vi 1040 (I n)), (up va 605 (cq (va K) (va 605) o n 0)), vl, vj, la, me)) := by
  simp only [f_X12_takes, cModel, if_true]
  unfold f_X12_takes_0 b_X12_takes_0
  rw [pModel_size, Option.bind_some, show (0 : Int32) = I ((0 : Nat) : Int) from rfl, m_takes8 hK hsrc hn ho hN F 0 _ _ _ _ _ _ _ _ _ _ _ _ (by omega) (by omega)]
end
