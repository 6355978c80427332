/-! line, where no task is standing -/
theorem ad_line {i : Nat} : aLine_came (eScript_lines i) = 223 + 8 * i ∧ aLine_now (eScript_lines i) = 226 + 8 * i ∧ aScript_draft = 1 := by
  unfold aLine_came aLine_now eScript_lines aScript_draft
  omega
section
variable {F : Nat} {tx : Nat → ZText} {pg : Nat → ZProg} {le : Nat → ZLearnt} {ln : Nat → ZLine} {tk : Nat → ZTask} {bd : Nat → ZBoard} {vi : Nat → Int32} {va : Nat → Nat → Int32} {vl : Nat → Nat → Int64} {vj : Int64} {la : Option Nat} {me : Nat → Option Nat}
theorem x_standing4 (hs : ∀ a, isTask a → (tk a).2.2.2.2.1 = I 0) : ∀ (m : Nat) (k x : Int), 0 ≤ k → k ≤ 3 → 4 - k ≤ m → f_X11_standingTasks_4 F m aScript (I x) (I k) (mk (tx, pg, le, ln, tk, bd, vi, va, vl, vj, la, me)) = some (I x, mk (tx, pg, le, ln, tk, bd, vi, va, vl, vj, la, me)) := by
  intro m
  induction m with
  | zero => intro k x h1 h2 h3; omega
  | succ m ih =>
    intro k x h1 h2 h3
    show b_X11_standingTasks_4 F (f_X11_standingTasks_4 F m) aScript (I x) (I k) (mk (tx, pg, le, ln, tk, bd, vi, va, vl, vj, la, me)) = _
    unfold b_X11_standingTasks_4
    have e3 : ((3 : Int32) ≤ I k) = ((3 : Int) ≤ k) := I_le (a := 3) (by decide) (by decide) (by omega) (by omega)
    by_cases h : 3 ≤ k
    · rw [if_pos (e3.mpr h)]
    · have hT : isTask (eScript_tasks k.toNat) := is_eScript_tasks (by omega)
      rw [if_neg (fun q => h (e3.mp q)), gScript_tasks, Option.bind_some, rScript_tasks h1 (by omega), Option.bind_some, gTask_standing hT, Option.bind_some, hs _ hT, if_pos I00, show (1 : Int32) = I 1 from rfl, I_add]
      exact ih (k + 1) x (by omega) (by omega) (by omega)
theorem x_line80 (hs : ∀ a, isTask a → (tk a).2.2.2.2.1 = I 0) {x : Int32} : ∀ (m : Nat) (k : Int), 0 ≤ k → k ≤ 3 → 4 - k ≤ m → f_X11_line_80 F m aScript x (I k) (mk (tx, pg, le, ln, tk, bd, vi, va, vl, vj, la, me)) = some (0, x, mk (tx, pg, le, ln, tk, bd, vi, va, vl, vj, la, me)) := by
  intro m
  induction m with
  | zero => intro k h1 h2 h3; omega
  | succ m ih =>
    intro k h1 h2 h3
    show b_X11_line_80 F (f_X11_line_80 F m) aScript x (I k) (mk (tx, pg, le, ln, tk, bd, vi, va, vl, vj, la, me)) = _
    unfold b_X11_line_80
    have e3 : ((3 : Int32) ≤ I k) = ((3 : Int) ≤ k) := I_le (a := 3) (by decide) (by decide) (by omega) (by omega)
    by_cases h : 3 ≤ k
    · rw [if_pos (e3.mpr h)]
    · have hT : isTask (eScript_tasks k.toNat) := is_eScript_tasks (by omega)
      rw [if_neg (fun q => h (e3.mp q)), gScript_tasks, Option.bind_some, rScript_tasks h1 (by omega), Option.bind_some, gTask_standing hT, Option.bind_some, hs _ hT, if_pos I00, show (1 : Int32) = I 1 from rfl, I_add]
      exact ih (k + 1) (by omega) (by omega) (by omega)
theorem x_line0 (hs : ∀ a, isTask a → (tk a).2.2.2.2.1 = I 0) {n r : Int} (n0 : 0 ≤ n) (n8 : n < 8) (r0 : 0 ≤ r) (r30 : r ≤ 30) (hn : vi 907 = I n) (hr : vi 908 = I r) {s : List Int} (hd : txt (tx aScript_draft) s) (hF : 21 ≤ F) : ∃ v1 v2 v3, txt v1 s ∧ txt v2 s ∧ txt v3 [] ∧ f_X11_line F aScript (mk (tx, pg, le, ln, tk, bd, vi, va, vl, vj, la, me)) = some (0, I n, mk ((up (up (up tx (aLine_came (eScript_lines n.toNat)) v1) (aLine_now (eScript_lines n.toNat)) v2) aScript_draft v3), pg, le, ln, tk, bd, (up vi 907 (I (n + 1))), va, vl, vj, la, me)) := by
  obtain ⟨d1, d2, d3⟩ := ad_line (i := n.toNat)
  have hL : isLine (eScript_lines n.toNat) := is_eScript_lines (by omega)
  have hC := is_Line_came hL
  have hN := is_Line_now hL
  obtain ⟨v1, hv1, e1⟩ := x_set (tx := tx) (pg := pg) (le := le) (ln := ln) (tk := tk) (bd := bd) (vi := up vi 907 (I (n + 1))) (va := va) (vl := vl) (vj := vj) (la := la) (me := me) hC is_Script_draft (by omega) hd hF
  have hd2 : txt (up tx (aLine_came (eScript_lines n.toNat)) v1 aScript_draft) s := by
    rw [up_ne (by omega)]
    exact hd
  obtain ⟨v2, hv2, e2⟩ := x_set (tx := up tx (aLine_came (eScript_lines n.toNat)) v1) (pg := pg) (le := le) (ln := ln) (tk := tk) (bd := bd) (vi := up vi 907 (I (n + 1))) (va := va) (vl := vl) (vj := vj) (la := la) (me := me) hN is_Script_draft (by omega) hd2 hF
  obtain ⟨v3, hv3, e3⟩ := x_clear (tx := up (up tx (aLine_came (eScript_lines n.toNat)) v1) (aLine_now (eScript_lines n.toNat)) v2) (pg := pg) (le := le) (ln := ln) (tk := tk) (bd := bd) (vi := up vi 907 (I (n + 1))) (va := va) (vl := vl) (vj := vj) (la := la) (me := me) is_Script_draft (show 5 ≤ F by omega)
  refine ⟨v1, v2, v3, hv1, hv2, hv3, ?_⟩
  have g1 : (I n < 8) = (n < 8) := I_lt (b := 8) (by omega) (by omega) (by decide) (by decide)
  have g2 : (I (r + 0) ≤ 30) = (r + 0 ≤ 30) := I_le (b := 30) (by omega) (by omega) (by decide) (by decide)
  have es : f_X11_standingTasks F aScript (mk (tx, pg, le, ln, tk, bd, vi, va, vl, vj, la, me)) = some (I 0, mk (tx, pg, le, ln, tk, bd, vi, va, vl, vj, la, me)) := by
    simp only [f_X11_standingTasks, f_X11_standingTasks_0, b_X11_standingTasks_0, cScript, if_true]
    exact x_standing4 hs F 0 0 (by decide) (by decide) (by omega)
  simp only [f_X11_line, cScript, if_true]
  unfold f_X11_line_0 b_X11_line_0
  rw [gScript_lineCount, Option.bind_some, hn, if_pos (g1.mpr n8), gScript_runCount, Option.bind_some, hr, es, Option.bind_some, I_add, if_pos (g2.mpr (by omega)), gScript_lineCount, Option.bind_some, Option.bind_some, hn, show (1 : Int32) = I 1 from rfl, I_add, pScript_lineCount, Option.bind_some, gScript_lines, Option.bind_some, rScript_lines n0 n8, Option.bind_some, gScript_draft, Option.bind_some]
  have eb : f_X5_begin F (eScript_lines n.toNat) aScript_draft (mk (tx, pg, le, ln, tk, bd, (up vi 907 (I (n + 1))), va, vl, vj, la, me)) = some (mk ((up (up tx (aLine_came (eScript_lines n.toNat)) v1) (aLine_now (eScript_lines n.toNat)) v2), pg, le, ln, tk, bd, (up vi 907 (I (n + 1))), va, vl, vj, la, me)) := by
    simp only [f_X5_begin, f_X5_begin_0, b_X5_begin_0, cLine hL, if_true]
    rw [gLine_came hL, Option.bind_some, e1, Option.bind_some, gLine_now hL, Option.bind_some, e2, Option.bind_some]
  rw [eb, Option.bind_some, gScript_draft, Option.bind_some, e3, Option.bind_some]
  exact x_line80 hs F 0 (by decide) (by decide) (by omega)
end
