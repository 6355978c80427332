/-! ONE CALL ON NEW OBJECTS: class and reference agree (source: wip/whole/src) -/
def FR (tx : Nat → ZText) (le : Nat → ZLearnt) (tk : Nat → ZTask) (vi : Nat → Int32) (va : Nat → Nat → Int32) : Prop :=
  txt (tx aScript_draft) [] ∧ (∀ a, isLearnt a → (le a).1 = I 0) ∧ (∀ a, isTask a → (tk a).2.2.2.2.2.2 = I 0 ∧ (tk a).2.1 = I 0 ∧ (tk a).2.2.2.2.1 = I 0 ∧ ∀ j, j < 4 → (tk a).2.2.2.1 j = I (-1)) ∧ (vi 907 = I 0 ∧ vi 908 = I 0 ∧ vi 909 = I 0 ∧ vi 1001 = I 0 ∧ vi 1003 = I 0 ∧ vi 1027 = I 0 ∧ vi 1030 = I 0) ∧ (∀ k, k < 3 → va 576 k = I 0) ∧ (∀ k, k < 3 → va 592 k = I 0) ∧ (∀ k, k < 3 → va 594 k = I 0) ∧ ∀ j, j < 12 → va 587 j = I (-1)
def Agrees (F : Nat) (fL : Option (Int32 × cM)) (fM : cM → Option (Int32 × cM)) (w : Int32 → Int64) : Prop := ∃ c v M1 M2 M3, fL = some (c, M1) ∧ fM M1 = some (v, M2) ∧ f_X12_thrown F 570 M2 = some (c, M3) ∧ (c = 0 → ∃ x, aJ M3 632 0 = some x ∧ lg_cmp x (w v) = 0)
section
variable {F : Nat} {tx : Nat → ZText} {pg : Nat → ZProg} {le : Nat → ZLearnt} {ln : Nat → ZLine} {tk : Nat → ZTask} {bd : Nat → ZBoard} {vi : Nat → Int32} {va : Nat → Nat → Int32} {vl : Nat → Nat → Int64} {vj : Int64} {la : Option Nat} {me : Nat → Option Nat}
theorem out_ok {v : Int64} : sJ (mk (tx, pg, le, ln, tk, bd, vi, va, vl, vj, la, me)) 632 0 v = some (mk (tx, pg, le, ln, tk, bd, vi, va, (up vl 632 (vp_updL (vl 632) 0 v)), vj, la, me)) := wOut (i := 0) (by decide) (by decide)
theorem out_rd : aJ (mk (tx, pg, le, ln, tk, bd, vi, va, vl, vj, la, me)) 632 0 = some (vl 632 0) := rOut (i := 0) (by decide) (by decide)
theorem ag_err {fL : Option (Int32 × cM)} {fM : cM → Option (Int32 × cM)} {w : Int32 → Int64} {M1 : cM} {c v : Int32} (e1 : fL = some (c, M1)) (e2 : fM M1 = some (v, mk (tx, pg, le, ln, tk, bd, vi, va, vl, vj, la, me))) (h : vi 1000 = c) (hc : c ≠ 0) : Agrees F fL fM w := ⟨c, v, M1, _, _, e1, e2, by rw [m_thrown, h], fun q => absurd q hc⟩
theorem ag_ok {fL : Option (Int32 × cM)} {fM : cM → Option (Int32 × cM)} {w : Int32 → Int64} {M1 : cM} {v : Int32} (e1 : fL = some (0, M1)) (e2 : fM M1 = some (v, mk (tx, pg, le, ln, tk, bd, vi, va, vl, vj, la, me))) (h : vi 1000 = I 0) (hv : vl 632 0 = w v) : Agrees F fL fM w := ⟨0, v, M1, _, _, e1, e2, by rw [m_thrown, h]; rfl, fun _ => ⟨_, out_rd, by rw [hv, lg_cmp_self]⟩⟩
theorem vlq {v : Int64} : up vl 632 (vp_updL (vl 632) 0 v) 632 0 = v := by
  rw [up_same]
  rfl
theorem pc_length (hF : 25 ≤ F) (h : FR tx le tk vi va) (l : Int32) : Agrees F (f_L_length F 0 l 632 (mk (tx, pg, le, ln, tk, bd, vi, va, vl, vj, la, me))) (fun M => f_X12_length F 570 l M) (fun v => v.toInt64) := by
  obtain ⟨h1, h2, h3, ⟨g1, g2, g3, g4, g5, g6, g7⟩, h5, h6, h7, h8⟩ := h
  obtain ⟨l, rfl, l0, l1⟩ := I_ex l
  exact ag_err (c := 1) (M1 := mk (tx, pg, le, ln, tk, bd, vi, va, vl, vj, la, me)) (by
    rw [wq_length]
    show (f_X11_length F aScript (I l) (mk (tx, pg, le, ln, tk, bd, vi, va, vl, vj, la, me))).bind _ = _
    rw [x_length l0 l1 g1 (by decide) (by decide), if_neg (show ¬ (0 ≤ l ∧ l < 0) by omega)]
    rfl) (m0_length l0 l1 g5) (by rw [up_same]; rfl) (by decide)
theorem pc_signAt (hF : 25 ≤ F) (h : FR tx le tk vi va) (l : Int32) (p : Int32) : Agrees F (f_L_signAt F 0 l p 632 (mk (tx, pg, le, ln, tk, bd, vi, va, vl, vj, la, me))) (fun M => f_X12_signAt F 570 l p M) (fun v => v.toInt64) := by
  obtain ⟨h1, h2, h3, ⟨g1, g2, g3, g4, g5, g6, g7⟩, h5, h6, h7, h8⟩ := h
  obtain ⟨l, rfl, l0, l1⟩ := I_ex l
  obtain ⟨p, rfl, p0, p1⟩ := I_ex p
  exact ag_err (c := 1) (M1 := mk (tx, pg, le, ln, tk, bd, vi, va, vl, vj, la, me)) (by
    rw [wq_signAt]
    show (f_X11_signAt F aScript (I l) (I p) (mk (tx, pg, le, ln, tk, bd, vi, va, vl, vj, la, me))).bind _ = _
    rw [x_signAt0 l0 l1 g1]
    rfl) (m0_signAt l0 l1 g5) (by rw [up_same]; rfl) (by decide)
theorem pc_placeOf (hF : 25 ≤ F) (h : FR tx le tk vi va) (l : Int32) (p : Int32) : Agrees F (f_L_placeOf F 0 l p 632 (mk (tx, pg, le, ln, tk, bd, vi, va, vl, vj, la, me))) (fun M => f_X12_placeOf F 570 l p M) (fun v => v.toInt64) := by
  obtain ⟨h1, h2, h3, ⟨g1, g2, g3, g4, g5, g6, g7⟩, h5, h6, h7, h8⟩ := h
  obtain ⟨l, rfl, l0, l1⟩ := I_ex l
  obtain ⟨p, rfl, p0, p1⟩ := I_ex p
  exact ag_err (c := 1) (M1 := mk (tx, pg, le, ln, tk, bd, vi, va, vl, vj, la, me)) (by
    rw [wq_placeOf]
    show (f_X11_placeOf F aScript (I l) (I p) (mk (tx, pg, le, ln, tk, bd, vi, va, vl, vj, la, me))).bind _ = _
    rw [x_placeOf0 l0 l1 g1]
    rfl) (m0_placeOf l0 l1 g5) (by rw [up_same]; rfl) (by decide)
theorem pc_show (hF : 25 ≤ F) (h : FR tx le tk vi va) (t : Int32) (l : Int32) : Agrees F (f_L_show F 0 t l 632 (mk (tx, pg, le, ln, tk, bd, vi, va, vl, vj, la, me))) (fun M => f_X12_show F 570 t l M) (fun v => v.toInt64) := by
  obtain ⟨h1, h2, h3, ⟨g1, g2, g3, g4, g5, g6, g7⟩, h5, h6, h7, h8⟩ := h
  obtain ⟨t, rfl, t0, t1⟩ := I_ex t
  obtain ⟨l, rfl, l0, l1⟩ := I_ex l
  exact ag_err (c := 1) (M1 := mk (tx, pg, le, ln, tk, bd, vi, va, vl, vj, la, me)) (by
    rw [wq_show]
    show (f_X11_show F aScript (I t) (I l) (mk (tx, pg, le, ln, tk, bd, vi, va, vl, vj, la, me))).bind _ = _
    rw [x_show0 t0 t1 l0 l1 g1]
    rfl) (m0_show t0 t1 l0 l1 g5) (by rw [up_same]; rfl) (by decide)
theorem pc_refuse (hF : 25 ≤ F) (h : FR tx le tk vi va) (t : Int32) (l : Int32) : Agrees F (f_L_refuse F 0 t l 632 (mk (tx, pg, le, ln, tk, bd, vi, va, vl, vj, la, me))) (fun M => f_X12_refuse F 570 t l M) (fun v => v.toInt64) := by
  obtain ⟨h1, h2, h3, ⟨g1, g2, g3, g4, g5, g6, g7⟩, h5, h6, h7, h8⟩ := h
  obtain ⟨t, rfl, t0, t1⟩ := I_ex t
  obtain ⟨l, rfl, l0, l1⟩ := I_ex l
  exact ag_err (c := 1) (M1 := mk (tx, pg, le, ln, tk, bd, vi, va, vl, vj, la, me)) (by
    rw [wq_refuse]
    show (f_X11_refuse F aScript (I t) (I l) (mk (tx, pg, le, ln, tk, bd, vi, va, vl, vj, la, me))).bind _ = _
    rw [x_refuse0 t0 t1 l0 l1 g1]
    rfl) (m0_refuse t0 t1 l0 l1 g5) (by rw [up_same]; rfl) (by decide)
theorem pc_preview (hF : 25 ≤ F) (h : FR tx le tk vi va) (t : Int32) (l : Int32) (p : Int32) : Agrees F (f_L_preview F 0 t l p 632 (mk (tx, pg, le, ln, tk, bd, vi, va, vl, vj, la, me))) (fun M => f_X12_preview F 570 t l p M) (fun v => v.toInt64) := by
  obtain ⟨h1, h2, h3, ⟨g1, g2, g3, g4, g5, g6, g7⟩, h5, h6, h7, h8⟩ := h
  obtain ⟨t, rfl, t0, t1⟩ := I_ex t
  obtain ⟨l, rfl, l0, l1⟩ := I_ex l
  obtain ⟨p, rfl, p0, p1⟩ := I_ex p
  exact ag_err (c := 1) (M1 := mk (tx, pg, le, ln, tk, bd, vi, va, vl, vj, la, me)) (by
    rw [wq_preview]
    show (f_X11_preview F aScript (I t) (I l) (I p) (mk (tx, pg, le, ln, tk, bd, vi, va, vl, vj, la, me))).bind _ = _
    rw [x_preview0 t0 t1 l0 l1 g1]
    rfl) (m0_preview t0 t1 l0 l1 g5) (by rw [up_same]; rfl) (by decide)
theorem pc_run (hF : 25 ≤ F) (h : FR tx le tk vi va) (t : Int32) (l : Int32) (q : Int32) (w : Int32) : Agrees F (f_L_run F 0 t l q w 632 (mk (tx, pg, le, ln, tk, bd, vi, va, vl, vj, la, me))) (fun M => f_X12_run F 570 t l q w M) (fun v => v.toInt64) := by
  obtain ⟨h1, h2, h3, ⟨g1, g2, g3, g4, g5, g6, g7⟩, h5, h6, h7, h8⟩ := h
  obtain ⟨t, rfl, t0, t1⟩ := I_ex t
  obtain ⟨l, rfl, l0, l1⟩ := I_ex l
  obtain ⟨q, rfl, q0, q1⟩ := I_ex q
  obtain ⟨w, rfl, w0, w1⟩ := I_ex w
  exact ag_err (c := 1) (M1 := mk (tx, pg, le, ln, tk, bd, vi, va, vl, vj, la, me)) (by
    rw [wq_run]
    show (f_X11_run F aScript (I t) (I l) (I q) (I w) (mk (tx, pg, le, ln, tk, bd, vi, va, vl, vj, la, me))).bind _ = _
    rw [x_run0 t0 t1 l0 l1 g1]
    rfl) (m0_run t0 t1 l0 l1 g5) (by rw [up_same]; rfl) (by decide)
theorem pc_undo (hF : 25 ≤ F) (h : FR tx le tk vi va) (r : Int32) : Agrees F (f_L_undo F 0 r 632 (mk (tx, pg, le, ln, tk, bd, vi, va, vl, vj, la, me))) (fun M => f_X12_undo F 570 r M) (fun v => if v = 0 then 0 else 1) := by
  obtain ⟨h1, h2, h3, ⟨g1, g2, g3, g4, g5, g6, g7⟩, h5, h6, h7, h8⟩ := h
  obtain ⟨r, rfl, r0, r1⟩ := I_ex r
  exact ag_err (c := 1) (M1 := mk (tx, pg, le, ln, tk, bd, vi, va, vl, vj, la, me)) (by
    rw [wq_undo]
    show (f_X11_undo F aScript (I r) (mk (tx, pg, le, ln, tk, bd, vi, va, vl, vj, la, me))).bind _ = _
    rw [x_undo0 r0 r1 g2]
    rfl) (m0_undo r0 r1 g6) (by rw [up_same]; rfl) (by decide)
theorem pc_learn (hF : 25 ≤ F) (h : FR tx le tk vi va) (t : Int32) : Agrees F (f_L_learn F 0 t 632 (mk (tx, pg, le, ln, tk, bd, vi, va, vl, vj, la, me))) (fun M => f_X12_learn F 570 t M) (fun v => v.toInt64) := by
  obtain ⟨h1, h2, h3, ⟨g1, g2, g3, g4, g5, g6, g7⟩, h5, h6, h7, h8⟩ := h
  obtain ⟨t, rfl, t0, t1⟩ := I_ex t
  by_cases ht : 0 ≤ t ∧ t < 3
  · exact ag_err (c := 2) (M1 := mk (tx, pg, le, ln, tk, bd, vi, va, vl, vj, la, me)) (by
      rw [wq_learn]
      show (f_X11_learn F aScript (I t) (mk (tx, pg, le, ln, tk, bd, vi, va, vl, vj, la, me))).bind _ = _
      rw [x_learn0 t0 t1 (fun a ha => (h3 a ha).2.1), if_pos ht]
      rfl) (m0_learn t0 t1 h5) (by rw [up_same, if_pos ht]; rfl) (by decide)
  · exact ag_err (c := 1) (M1 := mk (tx, pg, le, ln, tk, bd, vi, va, vl, vj, la, me)) (by
      rw [wq_learn]
      show (f_X11_learn F aScript (I t) (mk (tx, pg, le, ln, tk, bd, vi, va, vl, vj, la, me))).bind _ = _
      rw [x_learn0 t0 t1 (fun a ha => (h3 a ha).2.1), if_neg ht]
      rfl) (m0_learn t0 t1 h5) (by rw [up_same, if_neg ht]; rfl) (by decide)
theorem pc_weight (hF : 25 ≤ F) (h : FR tx le tk vi va) (t : Int32) (w : Int32) : Agrees F (f_L_weight F 0 t w 632 (mk (tx, pg, le, ln, tk, bd, vi, va, vl, vj, la, me))) (fun M => f_X12_weight F 570 t w M) (fun v => v.toInt64) := by
  obtain ⟨h1, h2, h3, ⟨g1, g2, g3, g4, g5, g6, g7⟩, h5, h6, h7, h8⟩ := h
  obtain ⟨t, rfl, t0, t1⟩ := I_ex t
  obtain ⟨w, rfl, w0, w1⟩ := I_ex w
  obtain ⟨tk', e⟩ := x_weight0 (F := F) (tx := tx) (pg := pg) (le := le) (ln := ln) (tk := tk) (bd := bd) (vi := vi) (va := va) (vl := vl) (vj := vj) (la := la) (me := me) t0 t1 w0 w1 (fun a ha => ⟨(h3 a ha).1, (h3 a ha).2.1⟩)
  obtain ⟨vi', k1, k2⟩ := m0_weight (F := F) (tx := tx) (pg := pg) (le := le) (ln := ln) (tk := tk') (bd := bd) (vi := vi) (va := va) (vl := vl) (vj := vj) (la := la) (me := me) t0 t1 w0 w1 h5
  exact ag_err (c := 1) (M1 := mk (tx, pg, le, ln, (tk'), bd, vi, va, vl, vj, la, me)) (by
    rw [wq_weight]
    show (f_X11_weight F aScript (I t) (I w) (mk (tx, pg, le, ln, tk, bd, vi, va, vl, vj, la, me))).bind _ = _
    rw [e]
    rfl) k2 (by rw [k1]; rfl) (by decide)
theorem pc_count (hF : 25 ≤ F) (h : FR tx le tk vi va) (t : Int32) : Agrees F (f_L_count F 0 t 632 (mk (tx, pg, le, ln, tk, bd, vi, va, vl, vj, la, me))) (fun M => f_X12_count F 570 t M) (fun v => v.toInt64) := by
  obtain ⟨h1, h2, h3, ⟨g1, g2, g3, g4, g5, g6, g7⟩, h5, h6, h7, h8⟩ := h
  obtain ⟨t, rfl, t0, t1⟩ := I_ex t
  obtain ⟨tk', e⟩ := x_count0 (F := F) (tx := tx) (pg := pg) (le := le) (ln := ln) (tk := tk) (bd := bd) (vi := vi) (va := va) (vl := vl) (vj := vj) (la := la) (me := me) t0 t1 (fun a ha => ⟨(h3 a ha).1, (h3 a ha).2.1⟩)
  by_cases ht : 0 ≤ t ∧ t < 3
  · obtain ⟨vi', k1, k2⟩ := m0_count (F := F) (tx := tx) (pg := pg) (le := le) (ln := ln) (tk := tk') (bd := bd) (vi := vi) (va := va) (vl := up vl 632 (vp_updL (vl 632) 0 (I 0).toInt64)) (vj := vj) (la := la) (me := me) t0 t1 h5
    simp only [if_pos ht] at e k1 k2
    exact ag_ok (v := I 0) (M1 := mk (tx, pg, le, ln, (tk'), bd, vi, va, (up vl 632 (vp_updL (vl 632) 0 (I 0).toInt64)), vj, la, me)) (by
      rw [wq_count]
      show (f_X11_count F aScript (I t) (mk (tx, pg, le, ln, tk, bd, vi, va, vl, vj, la, me))).bind _ = _
      rw [e, Option.bind_some, if_pos rfl, out_ok]
      rfl) k2 k1 vlq
  · obtain ⟨vi', k1, k2⟩ := m0_count (F := F) (tx := tx) (pg := pg) (le := le) (ln := ln) (tk := tk) (bd := bd) (vi := vi) (va := va) (vl := vl) (vj := vj) (la := la) (me := me) t0 t1 h5
    simp only [if_neg ht] at e k1 k2
    exact ag_err (c := 1) (M1 := mk (tx, pg, le, ln, tk, bd, vi, va, vl, vj, la, me)) (by
      rw [wq_count]
      show (f_X11_count F aScript (I t) (mk (tx, pg, le, ln, tk, bd, vi, va, vl, vj, la, me))).bind _ = _
      rw [e]
      rfl) k2 (by rw [k1]; rfl) (by decide)
theorem pc_question (hF : 25 ≤ F) (h : FR tx le tk vi va) (t : Int32) : Agrees F (f_L_question F 0 t 632 (mk (tx, pg, le, ln, tk, bd, vi, va, vl, vj, la, me))) (fun M => f_X12_question F 570 t M) (fun v => v.toInt64) := by
  obtain ⟨h1, h2, h3, ⟨g1, g2, g3, g4, g5, g6, g7⟩, h5, h6, h7, h8⟩ := h
  obtain ⟨t, rfl, t0, t1⟩ := I_ex t
  obtain ⟨tk', e⟩ := x_question0 (F := F) (tx := tx) (pg := pg) (le := le) (ln := ln) (tk := tk) (bd := bd) (vi := vi) (va := va) (vl := vl) (vj := vj) (la := la) (me := me) (by omega) t0 t1 g1 (fun a ha => ⟨(h3 a ha).1, (h3 a ha).2.1⟩)
  by_cases ht : 0 ≤ t ∧ t < 3
  · obtain ⟨vi', k1, k2⟩ := m0_question (F := F) (tx := tx) (pg := pg) (le := le) (ln := ln) (tk := tk') (bd := bd) (vi := vi) (va := va) (vl := up vl 632 (vp_updL (vl 632) 0 (I (-1)).toInt64)) (vj := vj) (la := la) (me := me) (by omega) t0 t1 g5 h5
    simp only [if_pos ht] at e k1 k2
    exact ag_ok (v := I (-1)) (M1 := mk (tx, pg, le, ln, (tk'), bd, vi, va, (up vl 632 (vp_updL (vl 632) 0 (I (-1)).toInt64)), vj, la, me)) (by
      rw [wq_question]
      show (f_X11_question F aScript (I t) (mk (tx, pg, le, ln, tk, bd, vi, va, vl, vj, la, me))).bind _ = _
      rw [e, Option.bind_some, if_pos rfl, out_ok]
      rfl) k2 k1 vlq
  · obtain ⟨vi', k1, k2⟩ := m0_question (F := F) (tx := tx) (pg := pg) (le := le) (ln := ln) (tk := tk) (bd := bd) (vi := vi) (va := va) (vl := vl) (vj := vj) (la := la) (me := me) (by omega) t0 t1 g5 h5
    simp only [if_neg ht] at e k1 k2
    exact ag_err (c := 1) (M1 := mk (tx, pg, le, ln, tk, bd, vi, va, vl, vj, la, me)) (by
      rw [wq_question]
      show (f_X11_question F aScript (I t) (mk (tx, pg, le, ln, tk, bd, vi, va, vl, vj, la, me))).bind _ = _
      rw [e]
      rfl) k2 (by rw [k1]; rfl) (by decide)
theorem pc_condition (hF : 25 ≤ F) (h : FR tx le tk vi va) (t : Int32) : Agrees F (f_L_condition F 0 t 632 (mk (tx, pg, le, ln, tk, bd, vi, va, vl, vj, la, me))) (fun M => f_X12_condition F 570 t M) (fun v => v.toInt64) := by
  obtain ⟨h1, h2, h3, ⟨g1, g2, g3, g4, g5, g6, g7⟩, h5, h6, h7, h8⟩ := h
  obtain ⟨t, rfl, t0, t1⟩ := I_ex t
  by_cases ht : 0 ≤ t ∧ t < 3
  · have hT : isTask (eScript_tasks t.toNat) := is_eScript_tasks (by omega)
    have e := x_condition (F := F) (tx := tx) (pg := pg) (le := le) (ln := ln) (tk := tk) (bd := bd) (vi := vi) (va := va) (vl := vl) (vj := vj) (la := la) (me := me) t0 t1
    simp only [if_pos ht, h2 _ (is_Task_learnt hT)] at e
    obtain ⟨vi', k1, k2⟩ := m0_condition (F := F) (tx := tx) (pg := pg) (le := le) (ln := ln) (tk := tk) (bd := bd) (vi := vi) (va := va) (vl := up vl 632 (vp_updL (vl 632) 0 (I (-1)).toInt64)) (vj := vj) (la := la) (me := me) t0 t1 h6
    simp only [if_pos ht] at k1 k2
    exact ag_ok (v := I (-1)) (M1 := mk (tx, pg, le, ln, tk, bd, vi, va, (up vl 632 (vp_updL (vl 632) 0 (I (-1)).toInt64)), vj, la, me)) (by
      rw [wq_condition]
      show (f_X11_condition F aScript (I t) (mk (tx, pg, le, ln, tk, bd, vi, va, vl, vj, la, me))).bind _ = _
      rw [e, Option.bind_some, if_pos rfl, if_pos trivial, out_ok]
      rfl) k2 k1 vlq
  · have e := x_condition (F := F) (tx := tx) (pg := pg) (le := le) (ln := ln) (tk := tk) (bd := bd) (vi := vi) (va := va) (vl := vl) (vj := vj) (la := la) (me := me) t0 t1
    obtain ⟨vi', k1, k2⟩ := m0_condition (F := F) (tx := tx) (pg := pg) (le := le) (ln := ln) (tk := tk) (bd := bd) (vi := vi) (va := va) (vl := vl) (vj := vj) (la := la) (me := me) t0 t1 h6
    simp only [if_neg ht] at e k1 k2
    exact ag_err (c := 1) (M1 := mk (tx, pg, le, ln, tk, bd, vi, va, vl, vj, la, me)) (by
      rw [wq_condition]
      show (f_X11_condition F aScript (I t) (mk (tx, pg, le, ln, tk, bd, vi, va, vl, vj, la, me))).bind _ = _
      rw [e]
      rfl) k2 (by rw [k1]; rfl) (by decide)
end
