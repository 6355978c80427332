/-! THE REFERENCE'S line, where no task is standing -/
def cp (f g : Nat → Int32) (b d j : Nat) : Nat → Int32 := fun i => if b + j ≤ i ∧ i < b + d then f (i - b) else g i
section
variable {F : Nat}
theorem m_line135 {x : Int32} : ∀ (m : Nat) (k : Int) (tx : Nat → ZText) pg le ln tk bd vi va vl vj la me, (∀ k : Nat, k < 3 → va 594 k = I 0) → 0 ≤ k → k ≤ 3 → 4 - k ≤ m → f_X12_line_135 F m aModel x (I k) (mk (tx, pg, le, ln, tk, bd, vi, va, vl, vj, la, me)) = some (x, mk (tx, pg, le, ln, tk, bd, vi, va, vl, vj, la, me)) := by
  intro m
  induction m with
  | zero => intro k; intros; omega
  | succ m ih =>
    intro k tx pg le ln tk bd vi va vl vj la me hs h1 h2 h3
    show b_X12_line_135 F (f_X12_line_135 F m) aModel x (I k) (mk (tx, pg, le, ln, tk, bd, vi, va, vl, vj, la, me)) = _
    unfold b_X12_line_135
    have e3 : ((3 : Int32) ≤ I k) = ((3 : Int) ≤ k) := I_le (a := 3) (by decide) (by decide) (by omega) (by omega)
    by_cases h : 3 ≤ k
    · rw [if_pos (e3.mpr h)]
    · rw [if_neg (fun q => h (e3.mp q)), gModel_isStanding, Option.bind_some, rModel_isStanding h1 (by omega), Option.bind_some, hs _ (by omega), if_pos I00, show (1 : Int32) = I 1 from rfl, I_add]
      exact ih (k + 1) _ _ _ _ _ _ _ _ _ _ _ _ hs (by omega) (by omega) (by omega)
theorem m_line77 {n d : Nat} (hn : n < 8) (hd : d ≤ 20) (hF : 4 ≤ F) : ∀ (m j : Nat) (tx : Nat → ZText) pg le ln tk bd vi va vl vj la me, (∀ k : Nat, k < 3 → va 594 k = I 0) → vi 1001 = I d → vi 1003 = I n → j ≤ d → d + 1 - j ≤ m → f_X12_line_77 F m aModel (I n) (I j) (mk (tx, pg, le, ln, tk, bd, vi, va, vl, vj, la, me)) = some (I n, mk (tx, pg, le, ln, tk, bd, (up (up vi 1001 (I 0)) 1003 (I (n + 1))), (up (up va 572 (cp (va 571) (va 572) (20 * n) d j)) 573 (upd (va 573) n (I d))), vl, vj, la, me)) := by
  intro m
  induction m with
  | zero => intro j; intros; omega
  | succ m ih =>
    intro j tx pg le ln tk bd vi va vl vj la me hs hz hl hj hm
    show b_X12_line_77 F (f_X12_line_77 F m) (f_X12_line_135 F F) aModel (I n) (I j) (mk (tx, pg, le, ln, tk, bd, vi, va, vl, vj, la, me)) = _
    unfold b_X12_line_77
    have e3 : (I d ≤ I j) = ((d : Int) ≤ j) := I_le (by omega) (by omega) (by omega) (by omega)
    rw [gModel_draftSize, Option.bind_some, hz]
    by_cases h : d ≤ j
    · have hjd : j = d := by omega
      subst hjd
      have hcp : cp (va 571) (va 572) (20 * n) j j = va 572 := by
        funext i
        unfold cp
        rw [if_neg (by omega)]
      have huv : up va 572 (va 572) = va := by
        funext i
        unfold up
        by_cases hi : i = 572
        · rw [if_pos hi, hi]
        · rw [if_neg hi]
      rw [if_pos (e3.mpr (by omega)), gModel_cameSize, Option.bind_some, Option.bind_some, wModel_cameSize (by omega) (by omega), Option.bind_some, show (0 : Int32) = I 0 from rfl, pModel_draftSize, Option.bind_some, gModel_lines, Option.bind_some, up_ne (by decide), hl, show (1 : Int32) = I 1 from rfl, I_add, pModel_lines, Option.bind_some, hcp, huv, m_line135 F 0 _ _ _ _ _ _ _ _ _ _ _ _ (fun k hk => by rw [up_ne (by decide)]; exact hs k hk) (by decide) (by decide) (by omega)]
      rfl
    · rw [if_neg (fun q => h (by have := e3.mp q; omega)), gModel_came, Option.bind_some, gModel_draft, Option.bind_some, rModel_draft (by omega) (by omega), Option.bind_some, show (20 : Int32) = I 20 from rfl, I_mul, I_add, wModel_came (by omega) (by omega), Option.bind_some, show (1 : Int32) = I ((1 : Nat) : Int) from rfl, I_add, show ((j : Int) + ((1 : Nat) : Int)) = ((j + 1 : Nat) : Int) by omega, ih (j + 1) _ _ _ _ _ _ _ _ _ _ _ _ (fun k hk => by rw [up_ne (by decide)]; exact hs k hk) hz hl (by omega) (by omega)]
      rw [up_up, up_same, up_ne (by decide), up_ne (by decide)]
      have hcp : cp (va 571) (upd (va 572) (20 * (n : Int) + (j : Int)).toNat (va 571 (j : Int).toNat)) (20 * n) d (j + 1) = cp (va 571) (va 572) (20 * n) d j := by
        funext i
        unfold cp upd
        rw [show (20 * (n : Int) + (j : Int)).toNat = 20 * n + j by omega, show ((j : Int).toNat) = j by omega]
        by_cases hi : i = 20 * n + j
        · rw [if_neg (by omega), if_pos hi, if_pos (by omega), hi]
          congr 1
          omega
        · by_cases h5 : 20 * n + (j + 1) ≤ i ∧ i < 20 * n + d
          · rw [if_pos h5, if_pos (by omega)]
          · rw [if_neg h5, if_neg hi, if_neg (by omega)]
      rw [hcp]
theorem m_line4 {x : Int32} : ∀ (m : Nat) (k y : Int) (tx : Nat → ZText) pg le ln tk bd vi va vl vj la me, (∀ k : Nat, k < 3 → va 594 k = I 0) → 0 ≤ k → k ≤ 3 → 4 - k ≤ m → f_X12_line_4 F (m + 1) aModel (I y) (I k) (mk (tx, pg, le, ln, tk, bd, vi, va, vl, vj, la, me)) = b_X12_line_4 F (fun _ _ _ _ => none) (f_X12_line_58 F) aModel (I y) (I 3) (mk (tx, pg, le, ln, tk, bd, vi, va, vl, vj, la, me)) := by
  intro m
  induction m with
  | zero => intro k; intros; omega
  | succ m ih =>
    intro k y tx pg le ln tk bd vi va vl vj la me hs h1 h2 h3
    by_cases h : k = 3
    · subst h
      show b_X12_line_4 F (f_X12_line_4 F (m + 1)) (f_X12_line_58 F) aModel (I y) (I 3) (mk (tx, pg, le, ln, tk, bd, vi, va, vl, vj, la, me)) = _
      unfold b_X12_line_4
      rw [if_pos (by decide), if_pos (by decide)]
    · show b_X12_line_4 F (f_X12_line_4 F (m + 1)) (f_X12_line_58 F) aModel (I y) (I k) (mk (tx, pg, le, ln, tk, bd, vi, va, vl, vj, la, me)) = _
      have e3 : ((3 : Int32) ≤ I k) = ((3 : Int) ≤ k) := I_le (a := 3) (by decide) (by decide) (by omega) (by omega)
      conv => lhs; unfold b_X12_line_4
      rw [if_neg (fun q => h (by have := e3.mp q; omega)), gModel_isStanding, Option.bind_some, rModel_isStanding h1 (by omega), Option.bind_some, hs _ (by omega), if_pos I00, show (1 : Int32) = I 1 from rfl, show (0 : Int32) = I 0 from rfl, I_add, I_add, Int.add_zero]
      exact ih (k + 1) y _ _ _ _ _ _ _ _ _ _ _ _ hs (by omega) (by omega) (by omega)
theorem m_line0 {tx pg le ln tk bd vi va vl vj la me} (hs : ∀ k : Nat, k < 3 → va 594 k = I 0) {n d : Nat} {r : Int} (n8 : n < 8) (hd : d ≤ 20) (r0 : 0 ≤ r) (r30 : r ≤ 30) (hn : vi 1003 = I n) (hr : vi 1027 = I r) (hz : vi 1001 = I d) (hF : 25 ≤ F) : f_X12_line F aModel (mk (tx, pg, le, ln, tk, bd, vi, va, vl, vj, la, me)) = some (I n, mk (tx, pg, le, ln, tk, bd, (up (up (up vi 1000 (I 0)) 1001 (I 0)) 1003 (I (n + 1))), (up (up va 572 (cp (va 571) (va 572) (20 * n) d 0)) 573 (upd (va 573) n (I d))), vl, vj, la, me)) := by
  obtain ⟨m, hm⟩ : ∃ m, F = m + 1 := ⟨F - 1, by omega⟩
  simp only [f_X12_line, f_X12_line_0, b_X12_line_0, cModel, if_true]
  rw [show f_X12_line_4 F F = f_X12_line_4 F (m + 1) by rw [← hm], show (0 : Int32) = I 0 from rfl, m_line4 (x := 0) m 0 0 _ _ _ _ _ _ _ _ _ _ _ _ hs (by decide) (by decide) (by omega)]
  unfold b_X12_line_4
  have e8 : (I n = 8) = ((n : Int) = 8) := I_eq (b := 8) (by omega) (by omega) (by decide) (by decide)
  have e30 : (I (r + 0) ≤ 30) = (r + 0 ≤ 30) := I_le (b := 30) (by omega) (by omega) (by decide) (by decide)
  rw [if_pos (by decide), gModel_lines, Option.bind_some, hn, if_neg (fun q => absurd (e8.mp q) (by omega)), gModel_runs, Option.bind_some, hr, I_add, if_pos (e30.mpr (by omega))]
  unfold f_X12_line_58 b_X12_line_58
  rw [show (0 : Int32) = I 0 from rfl, pModel_thrown, Option.bind_some, gModel_thrown, Option.bind_some, up_same, if_pos (by decide), gModel_lines, Option.bind_some, up_ne (by decide), hn]
  exact m_line77 n8 hd (by omega) F 0 _ _ _ _ _ _ _ _ _ _ _ _ hs (by rw [up_ne (by decide)]; exact hz) (by rw [up_ne (by decide)]; exact hn) (by omega) (by omega)
end
