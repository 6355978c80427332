/-! type; line, where no task is standing -/
section
variable {F : Nat}
theorem x_type {tx pg le ln tk bd vi va vl vj la me} {s : List Int} (hs : txt (tx aScript_draft) s) {c : Int} (c0 : 0 ≤ c) (c1 : c < 65536) (hF : 10 ≤ F) : ∃ v, (okS c → s.length < 20 → txt v (s ++ [c])) ∧ f_X11_type F aScript (I c) (mk (tx, pg, le, ln, tk, bd, vi, va, vl, vj, la, me)) = some (if okS c then if s.length < 20 then (0, I (s.length + 1), mk ((up tx aScript_draft v), pg, le, ln, tk, bd, vi, va, vl, vj, la, me)) else (2, 0, mk (tx, pg, le, ln, tk, bd, vi, va, vl, vj, la, me)) else (1, 0, mk (tx, pg, le, ln, tk, bd, vi, va, vl, vj, la, me))) := by
  simp only [f_X11_type, cScript, if_true]
  unfold f_X11_type_0 b_X11_type_0
  rw [x_isOfTexts hF c0 c1, Option.bind_some]
  dsimp only
  have hl := hs.2.1
  have hz := hs.1
  by_cases h : okS c
  · by_cases h20 : s.length < 20
    · obtain ⟨v, hv, e⟩ := x_add (pg := pg) (le := le) (ln := ln) (tk := tk) (bd := bd) (vi := vi) (va := va) (vl := vl) (vj := vj) (la := la) (me := me) is_Script_draft hs h h20 (show 5 ≤ F by omega)
      refine ⟨v, fun _ _ => hv, ?_⟩
      have e20 : (I s.length < 20) = ((s.length : Int) < 20) := I_lt (b := 20) (by omega) (by omega) (by decide) (by decide)
      rw [if_pos h, if_neg I10', if_pos h, if_pos h20, gScript_draft, Option.bind_some, gText_size is_Script_draft, Option.bind_some, hz, if_pos (e20 ▸ (show (s.length : Int) < 20 by omega)), Option.bind_some, e, Option.bind_some]
      dsimp only
      rw [gScript_draft, Option.bind_some, gText_size is_Script_draft, Option.bind_some, up_same, hv.1, List.length_append]
      rfl
    · refine ⟨tx aScript_draft, fun _ q => absurd q h20, ?_⟩
      have e20 : (I s.length < 20) = ((s.length : Int) < 20) := I_lt (b := 20) (by omega) (by omega) (by decide) (by decide)
      rw [if_pos h, if_neg I10', if_pos h, if_neg h20, gScript_draft, Option.bind_some, gText_size is_Script_draft, Option.bind_some, hz, if_neg (e20 ▸ (show ¬ (s.length : Int) < 20 by omega))]
      rfl
  · refine ⟨tx aScript_draft, fun q => absurd q h, ?_⟩
    rw [if_neg h, if_pos I00, if_neg h]
    rfl
theorem m_type {tx pg le ln tk bd vi va vl vj la me} {n : Nat} (hn : vi 1001 = I n) (n20 : n ≤ 20) {c : Int} (c0 : 0 ≤ c) (c1 : c < 65536) : f_X12_type F aModel (I c) (mk (tx, pg, le, ln, tk, bd, vi, va, vl, vj, la, me)) = some (if okS c then if n < 20 then (I (n + 1), mk (tx, pg, le, ln, tk, bd, (up (up vi 1000 (I 0)) 1001 (I (n + 1))), (up va 571 (upd (va 571) n (I c))), vl, vj, la, me)) else (I 0, mk (tx, pg, le, ln, tk, bd, (up vi 1000 (I 2)), va, vl, vj, la, me)) else (I 0, mk (tx, pg, le, ln, tk, bd, (up vi 1000 (I 1)), va, vl, vj, la, me))) := by
  simp only [f_X12_type, cModel, if_true]
  unfold f_X12_type_0 b_X12_type_0
  rw [m_isSign c0 c1, Option.bind_some]
  dsimp only
  by_cases h : okS c
  · rw [if_pos h, if_neg I10', gModel_draftSize, Option.bind_some, hn, if_pos h]
    have e20 : (I n = 20) = ((n : Int) = 20) := I_eq (b := 20) (by omega) (by omega) (by decide) (by decide)
    by_cases h20 : n < 20
    · rw [if_neg (e20 ▸ (show ¬ (n : Int) = 20 by omega)), if_pos h20]
      unfold f_X12_type_26 b_X12_type_26
      rw [pModel_thrown, Option.bind_some, gModel_thrown, Option.bind_some, up_same, if_pos (show (0 : Int32) ≤ 0 by decide), gModel_draft, Option.bind_some, gModel_draftSize, Option.bind_some, up_ne (by decide), hn, wModel_draft (by omega) (by omega), Option.bind_some, gModel_draftSize, Option.bind_some, up_ne (by decide), hn, show (1 : Int32) = I 1 from rfl, I_add, pModel_draftSize, Option.bind_some, gModel_draftSize, Option.bind_some, up_same]
      rfl
    · rw [if_pos (e20 ▸ (show (n : Int) = 20 by omega)), if_neg h20]
      unfold f_X12_type_26 b_X12_type_26
      rw [pModel_thrown, Option.bind_some, gModel_thrown, Option.bind_some, up_same, if_neg (show ¬ (2 : Int32) ≤ 0 by decide)]
      rfl
  · rw [if_neg h, if_pos I00, if_neg h]
    unfold f_X12_type_26 b_X12_type_26
    rw [pModel_thrown, Option.bind_some, gModel_thrown, Option.bind_some, up_same, if_neg (show ¬ (1 : Int32) ≤ 0 by decide)]
    rfl
end
