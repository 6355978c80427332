/-! SIGNS -/
abbrev isDig (c : Int) : Prop := 48 ≤ c ∧ c ≤ 57
abbrev isCap (c : Int) : Prop := 65 ≤ c ∧ c ≤ 90
abbrev isSml (c : Int) : Prop := 97 ≤ c ∧ c ≤ 122
abbrev okS (c : Int) : Prop := isDig c ∨ isCap c ∨ isSml c ∨ c = 32 ∨ c = 44 ∨ c = 46 ∨ c = 45 ∨ c = 47
abbrev ofK (c k : Int) : Prop := (k = 0 ∧ isDig c) ∨ (k = 1 ∧ (isCap c ∨ isSml c)) ∨ (k = 2 ∧ isCap c) ∨ (k = 3 ∧ c ≠ 32)
def mrk (m : Int) : Int := if m = 1 then 32 else if m = 2 then 44 else if m = 3 then 46 else if m = 4 then 45 else 47
theorem x_isOf {F : Nat} {c k : Int} {M : cM} (c0 : 0 ≤ c) (c1 : c < 65536) (k0 : 0 ≤ k) (k1 : k < 4) : f_X7_isOf F (I c) (I k) M = some (if ofK c k then I 1 else I 0, M) := by
  simp (disch := first | omega | assumption | exact is_Script_draft | exact is_Script_made | exact is_Learner_made | exact is_Learner_madeFirst | (apply is_eScript_tasks; omega) | (apply is_eScript_lines; omega) | (apply is_eScript_ranBy; omega)) only [f_X7_isOf, f_X7_isOf_0, b_X7_isOf_0, f_X7_isOf_17, b_X7_isOf_17, I_0, I_1, I_lit, I_lt, I_eq]
  have h : k = 0 ∨ k = 1 ∨ k = 2 ∨ k = 3 := by omega
  rcases h with rfl | rfl | rfl | rfl
  all_goals
    repeat' split
    all_goals first
      | rfl
      | (exfalso; omega)
      | (exfalso; simp only [not_true_eq_false, true_or, or_true] at *; done)
theorem x_markOf {F : Nat} {m : Int} {M : cM} (m0 : -100 ≤ m) (m1 : m < 100) : f_X7_markOf F (I m) M = some (I (mrk m), M) := by
  simp (disch := first | omega | assumption | exact is_Script_draft | exact is_Script_made | exact is_Learner_made | exact is_Learner_madeFirst | (apply is_eScript_tasks; omega) | (apply is_eScript_lines; omega) | (apply is_eScript_ranBy; omega)) only [f_X7_markOf, f_X7_markOf_0, b_X7_markOf_0, I_1, I_lit, I_eq]
  unfold mrk
  repeat' split
  all_goals first
    | rfl
    | (exfalso; omega)
theorem x_isOfTexts20 {F : Nat} {c : Int} {M : cM} (c0 : 0 ≤ c) (c1 : c < 65536) : ∀ (n : Nat) (m : Int), 1 ≤ m → m ≤ 6 → 7 - m ≤ n → f_X7_isOfTexts_20 F n (I c) (I m) M = some (if ∃ j : Nat, j < 6 ∧ m ≤ j ∧ c = mrk j then I 1 else I 0, M) := by
  intro n
  induction n with
  | zero => intro m h1 h2 h3; omega
  | succ n ih =>
    intro m h1 h2 h3
    show b_X7_isOfTexts_20 F (f_X7_isOfTexts_20 F n) (I c) (I m) M = _
    unfold b_X7_isOfTexts_20
    have e6 : ((6 : Int32) ≤ I m) = ((6 : Int) ≤ m) := I_le (a := 6) (by decide) (by decide) (by omega) (by omega)
    by_cases h6 : (6 : Int) ≤ m
    · rw [if_pos (e6 ▸ h6), if_neg]
      · rfl
      · rintro ⟨j, j1, j2, -⟩
        omega
    · have hb : -128 ≤ mrk m ∧ mrk m < 128 := by unfold mrk; repeat' split
                                                 all_goals omega
      rw [if_neg (e6 ▸ h6), x_markOf (by omega) (by omega), Option.bind_some]
      dsimp only
      have ee : (I c = I (mrk m)) = (c = mrk m) := I_eq (by omega) (by omega) (by omega) (by omega)
      by_cases hc : c = mrk m
      · rw [if_pos (ee ▸ hc), if_pos]
        · rfl
        · exact ⟨m.toNat, by omega, by omega, by rw [hc]; congr 1; omega⟩
      · rw [if_neg (ee ▸ hc), show (I m + 1 : Int32) = I (m + 1) from I_add m 1, ih (m + 1) (by omega) (by omega) (by omega)]
        congr 2
        by_cases hx : ∃ j : Nat, j < 6 ∧ m + 1 ≤ j ∧ c = mrk j
        · rw [if_pos hx, if_pos]
          obtain ⟨j, j1, j2, j3⟩ := hx
          exact ⟨j, j1, by omega, j3⟩
        · rw [if_neg hx, if_neg]
          rintro ⟨j, j1, j2, j3⟩
          by_cases hj : (j : Int) = m
          · exact hc (by rw [j3, hj])
          · exact hx ⟨j, j1, by omega, j3⟩
theorem mrk_ex {c : Int} : (∃ j : Nat, j < 6 ∧ (1 : Int) ≤ j ∧ c = mrk j) ↔ (c = 32 ∨ c = 44 ∨ c = 46 ∨ c = 45 ∨ c = 47) := by
  constructor
  · rintro ⟨j, j1, j2, rfl⟩
    have h : j = 1 ∨ j = 2 ∨ j = 3 ∨ j = 4 ∨ j = 5 := by omega
    rcases h with rfl | rfl | rfl | rfl | rfl <;> simp [mrk]
  · rintro (h | h | h | h | h)
    · exact ⟨1, by omega, by omega, by rw [h]; rfl⟩
    · exact ⟨2, by omega, by omega, by rw [h]; rfl⟩
    · exact ⟨3, by omega, by omega, by rw [h]; rfl⟩
    · exact ⟨4, by omega, by omega, by rw [h]; rfl⟩
    · exact ⟨5, by omega, by omega, by rw [h]; rfl⟩
theorem x_isOfTexts {F : Nat} {c : Int} {M : cM} (hF : 10 ≤ F) (c0 : 0 ≤ c) (c1 : c < 65536) : f_X7_isOfTexts F (I c) M = some (if okS c then I 1 else I 0, M) := by
  simp only [f_X7_isOfTexts, f_X7_isOfTexts_0, b_X7_isOfTexts_0]
  rw [show (0 : Int32) = I 0 from rfl, show (1 : Int32) = I 1 from rfl, x_isOf c0 c1 (by decide) (by decide), Option.bind_some]
  dsimp only
  have e0 : I 0 = 0 := rfl
  have e1 : ¬ I 1 = I 0 := by decide
  by_cases h0 : ofK c 0
  · rw [if_pos h0, if_neg e1, if_pos (by omega)]
  · rw [if_neg h0, if_pos rfl, x_isOf c0 c1 (by decide) (by decide), Option.bind_some]
    dsimp only
    by_cases h1 : ofK c 1
    · rw [if_pos h1, if_neg e1, if_pos (by omega)]
    · rw [if_neg h1, if_pos rfl, x_isOfTexts20 c0 c1 F 1 (by decide) (by decide) (by omega)]
      congr 2
      by_cases h2 : c = 32 ∨ c = 44 ∨ c = 46 ∨ c = 45 ∨ c = 47
      · rw [if_pos (mrk_ex.mpr h2), if_pos (by omega)]
      · rw [if_neg (fun h => h2 (mrk_ex.mp h)), if_neg (by omega)]
theorem m_isIn {F : Nat} {a b c : Int} {M : cM} (a0 : -2147483648 ≤ a) (a1 : a < 2147483648) (b0 : -2147483648 ≤ b) (b1 : b < 2147483648) (c0 : -2147483648 ≤ c) (c1 : c < 2147483648) : f_X12_isIn F (I a) (I b) (I c) M = some (if b ≤ a ∧ a ≤ c then I 1 else I 0, M) := by
  simp (disch := first | omega | assumption | exact is_Script_draft | exact is_Script_made | exact is_Learner_made | exact is_Learner_madeFirst | (apply is_eScript_tasks; omega) | (apply is_eScript_lines; omega) | (apply is_eScript_ranBy; omega)) only [f_X12_isIn, f_X12_isIn_0, b_X12_isIn_0, I_lt, I_0, I_1]
  repeat' split
  all_goals first
    | rfl
    | (exfalso; omega)
theorem I00 : I 0 = 0 := rfl
theorem I10 : ¬ I 1 = I 0 := by decide
theorem I10' : ¬ I 1 = 0 := by decide
theorem m_isLetter {F : Nat} {c : Int} {M : cM} (c0 : 0 ≤ c) (c1 : c < 65536) : f_X12_isLetter F (I c) M = some (if isCap c ∨ isSml c then I 1 else I 0, M) := by
  simp only [f_X12_isLetter, f_X12_isLetter_0, b_X12_isLetter_0]
  rw [show (97 : Int32) = I 97 from rfl, show (122 : Int32) = I 122 from rfl, show (65 : Int32) = I 65 from rfl, show (90 : Int32) = I 90 from rfl, m_isIn (by omega) (by omega) (by decide) (by decide) (by decide) (by decide), Option.bind_some]
  dsimp only
  by_cases h : isSml c
  · rw [if_pos h, if_neg I10', if_pos (Or.inr h)]
    rfl
  · rw [if_neg h, if_pos I00, m_isIn (by omega) (by omega) (by decide) (by decide) (by decide) (by decide), Option.bind_some]
    dsimp only
    by_cases h2 : isCap c
    · rw [if_pos h2, if_neg I10', if_pos (Or.inl h2)]
      rfl
    · rw [if_neg h2, if_pos I00, if_neg (by omega)]
      rfl
theorem m_isDigit {F : Nat} {c : Int} {M : cM} (c0 : 0 ≤ c) (c1 : c < 65536) : f_X12_isDigit F (I c) M = some (if isDig c then I 1 else I 0, M) := by
  simp only [f_X12_isDigit, f_X12_isDigit_0, b_X12_isDigit_0]
  rw [show (48 : Int32) = I 48 from rfl, show (57 : Int32) = I 57 from rfl, m_isIn (by omega) (by omega) (by decide) (by decide) (by decide) (by decide), Option.bind_some]
  by_cases h : isDig c
  · simp only [if_pos h]
    rfl
  · simp only [if_neg h]
    rfl
theorem m_isSign {F : Nat} {c : Int} {M : cM} (c0 : 0 ≤ c) (c1 : c < 65536) : f_X12_isSign F (I c) M = some (if okS c then I 1 else I 0, M) := by
  simp only [f_X12_isSign, f_X12_isSign_0, b_X12_isSign_0]
  rw [m_isLetter c0 c1, Option.bind_some]
  dsimp only
  by_cases h : isCap c ∨ isSml c
  · rw [if_pos h, if_neg I10', if_pos (by omega)]
    rfl
  · rw [if_neg h, if_pos I00, m_isDigit c0 c1, Option.bind_some]
    dsimp only
    by_cases h2 : isDig c
    · rw [if_pos h2, if_neg I10', if_pos (by omega)]
      rfl
    · rw [if_neg h2, if_pos I00]
      simp (disch := first | omega | assumption | exact is_Script_draft | exact is_Script_made | exact is_Learner_made | exact is_Learner_madeFirst | (apply is_eScript_tasks; omega) | (apply is_eScript_lines; omega) | (apply is_eScript_ranBy; omega)) only [I_lit, I_eq]
      repeat' split
      all_goals first
        | rfl
        | (exfalso; omega)
