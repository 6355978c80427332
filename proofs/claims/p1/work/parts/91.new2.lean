/-! ONE CALL ON NEW OBJECTS: the rest (laid by tools/g91.py) -/
section
variable {F : Nat} {tx : Nat → ZText} {pg : Nat → ZProg} {le : Nat → ZLearnt} {ln : Nat → ZLine} {tk : Nat → ZTask} {bd : Nat → ZBoard} {vi : Nat → Int32} {va : Nat → Nat → Int32} {vl : Nat → Nat → Int64} {vj : Int64} {la : Option Nat} {me : Nat → Option Nat}
theorem chr_ex (x : Int32) : ∃ c : Int, (x.toUInt32 % 65536).toInt32 = I c ∧ 0 ≤ c ∧ c < 65536 := by
  refine ⟨((x.toUInt32 % 65536).toNat : Int), ?_, by omega, ?_⟩
  · unfold I
    rw [Int32.ofInt_eq_ofNat]
    apply Int32.toBitVec_inj.mp
    apply BitVec.eq_of_toNat_eq
    have h : (x.toUInt32 % 65536).toNat < 4294967296 := (x.toUInt32 % 65536).toNat_lt
    show (x.toUInt32 % 65536).toBitVec.toNat = (BitVec.ofNat 32 (x.toUInt32 % 65536).toNat).toNat
    rw [BitVec.toNat_ofNat, Nat.mod_eq_of_lt h]
    rfl
  · have h : (x.toUInt32 % 65536).toNat = x.toUInt32.toNat % 65536 := UInt32.toNat_mod _ _
    omega
theorem pc_type (hF : 25 ≤ F) (h : FR tx le tk vi va) (y : Int32) : Agrees F (f_L_type F 0 (y.toUInt32 % 65536).toInt32 632 (mk (tx, pg, le, ln, tk, bd, vi, va, vl, vj, la, me))) (fun M => f_X12_type F 570 (y.toUInt32 % 65536).toInt32 M) (fun v => v.toInt64) := by
  obtain ⟨h1, h2, h3, ⟨g1, g2, g3, g4, g5, g6, g7⟩, h5, h6, h7, h8⟩ := h
  obtain ⟨c, hc, c0, c1⟩ := chr_ex y
  rw [hc]
  obtain ⟨v, hv, e⟩ := x_type (F := F) (tx := tx) (pg := pg) (le := le) (ln := ln) (tk := tk) (bd := bd) (vi := vi) (va := va) (vl := vl) (vj := vj) (la := la) (me := me) h1 c0 c1 (by omega)
  by_cases ho : okS c
  · simp only [if_pos ho] at e
    rw [if_pos (show ([] : List Int).length < 20 by decide)] at e
    have e2 := m_type (F := F) (tx := up tx aScript_draft v) (pg := pg) (le := le) (ln := ln) (tk := tk) (bd := bd) (vi := vi) (va := va) (vl := up vl 632 (vp_updL (vl 632) 0 (I 1).toInt64)) (vj := vj) (la := la) (me := me) (n := 0) g4 (by decide) c0 c1
    rw [if_pos ho, if_pos (show 0 < 20 by decide)] at e2
    exact ag_ok (M1 := mk ((up tx aScript_draft v), pg, le, ln, tk, bd, vi, va, (up vl 632 (vp_updL (vl 632) 0 (I 1).toInt64)), vj, la, me)) (by
      rw [wq_type]
      show (f_X11_type F aScript (I c) (mk (tx, pg, le, ln, tk, bd, vi, va, vl, vj, la, me))).bind _ = _
      rw [e, Option.bind_some, if_pos rfl]
      show (sJ (mk ((up tx aScript_draft v), pg, le, ln, tk, bd, vi, va, vl, vj, la, me)) 632 0 (I 1).toInt64).bind _ = _
      rw [out_ok]
      rfl) e2 (by rw [up_ne (by decide), up_same]) vlq
  · simp only [if_neg ho] at e
    have e2 := m_type (F := F) (tx := tx) (pg := pg) (le := le) (ln := ln) (tk := tk) (bd := bd) (vi := vi) (va := va) (vl := vl) (vj := vj) (la := la) (me := me) (n := 0) g4 (by decide) c0 c1
    rw [if_neg ho] at e2
    exact ag_err (c := 1) (M1 := mk (tx, pg, le, ln, tk, bd, vi, va, vl, vj, la, me)) (by
      rw [wq_type]
      show (f_X11_type F aScript (I c) (mk (tx, pg, le, ln, tk, bd, vi, va, vl, vj, la, me))).bind _ = _
      rw [e]
      rfl) e2 (by rw [up_same]; rfl) (by decide)
theorem pc_line (hF : 25 ≤ F) (h : FR tx le tk vi va) : Agrees F (f_L_line F 0 632 (mk (tx, pg, le, ln, tk, bd, vi, va, vl, vj, la, me))) (fun M => f_X12_line F 570 M) (fun v => v.toInt64) := by
  obtain ⟨h1, h2, h3, ⟨g1, g2, g3, g4, g5, g6, g7⟩, h5, h6, h7, h8⟩ := h
  obtain ⟨v1, v2, v3, k1, k2, k3, e⟩ := x_line0 (F := F) (tx := tx) (pg := pg) (le := le) (ln := ln) (tk := tk) (bd := bd) (vi := vi) (va := va) (vl := vl) (vj := vj) (la := la) (me := me) (fun a ha => (h3 a ha).2.2.1) (n := 0) (r := 0) (by decide) (by decide) (by decide) (by decide) g1 g2 h1 (by omega)
  have e2 := m_line0 (F := F) (tx := up (up (up tx (aLine_came (eScript_lines (0 : Int).toNat)) v1) (aLine_now (eScript_lines (0 : Int).toNat)) v2) aScript_draft v3) (pg := pg) (le := le) (ln := ln) (tk := tk) (bd := bd) (vi := up vi 907 (I (0 + 1))) (va := va) (vl := up vl 632 (vp_updL (vl 632) 0 (I 0).toInt64)) (vj := vj) (la := la) (me := me) h7 (n := 0) (d := 0) (r := 0) (by decide) (by decide) (by decide) (by decide) (by rw [up_ne (by decide)]; exact g5) (by rw [up_ne (by decide)]; exact g6) (by rw [up_ne (by decide)]; exact g4) hF
  exact ag_ok (v := I 0) (M1 := _) (by
    rw [wq_line]
    show (f_X11_line F aScript (mk (tx, pg, le, ln, tk, bd, vi, va, vl, vj, la, me))).bind _ = _
    rw [e, Option.bind_some, if_pos rfl]
    dsimp only
    rw [out_ok]
    rfl) e2 (by rw [up_ne (by decide), up_ne (by decide), up_same]) vlq
theorem pc_stand (hF : 25 ≤ F) (h : FR tx le tk vi va) (t : Int32) {b : Int} (hb : b = 0 ∨ b = 1) : Agrees F (f_L_stand F 0 t (I b) 632 (mk (tx, pg, le, ln, tk, bd, vi, va, vl, vj, la, me))) (fun M => f_X12_stand F 570 t (I b) M) (fun v => if v = 0 then 0 else 1) := by
  obtain ⟨h1, h2, h3, ⟨g1, g2, g3, g4, g5, g6, g7⟩, h5, h6, h7, h8⟩ := h
  obtain ⟨t, rfl, t0, t1⟩ := I_ex t
  obtain ⟨tk', e⟩ := x_stand0 (F := F) (tx := tx) (pg := pg) (le := le) (ln := ln) (tk := tk) (bd := bd) (vi := vi) (va := va) (vl := vl) (vj := vj) (la := la) (me := me) hb t0 t1 h2 (fun a ha => (h3 a ha).2.2.1)
  by_cases ht : 0 ≤ t ∧ t < 3
  · by_cases hb0 : b = 0
    · obtain ⟨vi', va', k1, k2⟩ := m0_stand (F := F) (tx := tx) (pg := pg) (le := le) (ln := ln) (tk := tk') (bd := bd) (vi := vi) (va := va) (vl := up vl 632 (vp_updL (vl 632) 0 0)) (vj := vj) (la := la) (me := me) hb t0 t1 h6 h7
      simp only [if_pos ht, if_pos hb0] at e k1 k2
      exact ag_ok (v := I 0) (M1 := mk (tx, pg, le, ln, (tk'), bd, vi, va, (up vl 632 (vp_updL (vl 632) 0 0)), vj, la, me)) (by
        rw [wq_stand]
        show (f_X11_stand F aScript (I t) (I b) (mk (tx, pg, le, ln, tk, bd, vi, va, vl, vj, la, me))).bind _ = _
        rw [e, Option.bind_some, if_pos rfl, if_pos I00, out_ok]
        rfl) k2 k1 (by rw [if_pos I00]; exact vlq)
    · obtain ⟨vi', va', k1, k2⟩ := m0_stand (F := F) (tx := tx) (pg := pg) (le := le) (ln := ln) (tk := tk) (bd := bd) (vi := vi) (va := va) (vl := vl) (vj := vj) (la := la) (me := me) hb t0 t1 h6 h7
      simp only [if_pos ht, if_neg hb0] at e k1 k2
      exact ag_err (c := 2) (M1 := mk (tx, pg, le, ln, tk, bd, vi, va, vl, vj, la, me)) (by
        rw [wq_stand]
        show (f_X11_stand F aScript (I t) (I b) (mk (tx, pg, le, ln, tk, bd, vi, va, vl, vj, la, me))).bind _ = _
        rw [e]
        rfl) k2 (by rw [k1]; rfl) (by decide)
  · obtain ⟨vi', va', k1, k2⟩ := m0_stand (F := F) (tx := tx) (pg := pg) (le := le) (ln := ln) (tk := tk) (bd := bd) (vi := vi) (va := va) (vl := vl) (vj := vj) (la := la) (me := me) hb t0 t1 h6 h7
    simp only [if_neg ht] at e k1 k2
    exact ag_err (c := 1) (M1 := mk (tx, pg, le, ln, tk, bd, vi, va, vl, vj, la, me)) (by
      rw [wq_stand]
      show (f_X11_stand F aScript (I t) (I b) (mk (tx, pg, le, ln, tk, bd, vi, va, vl, vj, la, me))).bind _ = _
      rw [e]
      rfl) k2 (by rw [k1]; rfl) (by decide)
theorem pc_atomAt (hF : 25 ≤ F) (h : FR tx le tk vi va) (t : Int32) {b : Int} (hb : b = 0 ∨ b = 1) (p w : Int32) : Agrees F (f_L_atomAt F 0 t (I b) p w 632 (mk (tx, pg, le, ln, tk, bd, vi, va, vl, vj, la, me))) (fun M => f_X12_atomAt F 570 t (I b) p w M) (fun v => v.toInt64) := by
  obtain ⟨h1, h2, h3, ⟨g1, g2, g3, g4, g5, g6, g7⟩, h5, h6, h7, h8⟩ := h
  obtain ⟨t, rfl, t0, t1⟩ := I_ex t
  obtain ⟨p, rfl, p0, p1⟩ := I_ex p
  obtain ⟨w, rfl, w0, w1⟩ := I_ex w
  have e := x_atomAt0 (F := F) (tx := tx) (pg := pg) (le := le) (ln := ln) (tk := tk) (bd := bd) (vi := vi) (va := va) (vl := vl) (vj := vj) (la := la) (me := me) (e := b) t0 t1 p0 p1 w0 w1 h2
  by_cases ht : 0 ≤ t ∧ t < 3 ∧ 0 ≤ p
  · by_cases hw : 0 ≤ w ∧ w ≤ 4
    · obtain ⟨vi', k1, k2⟩ := m0_atomAt (F := F) (tx := tx) (pg := pg) (le := le) (ln := ln) (tk := tk) (bd := bd) (vi := vi) (va := va) (vl := up vl 632 (vp_updL (vl 632) 0 (I (-1)).toInt64)) (vj := vj) (la := la) (me := me) hb t0 t1 p0 p1 w0 w1 h6
      rw [if_pos ht, if_pos hw] at k1
      rw [if_pos (show 0 ≤ t ∧ t < 3 ∧ 0 ≤ p ∧ 0 ≤ w ∧ w ≤ 4 by omega)] at k2
      rw [if_pos ht, if_pos hw] at e
      exact ag_ok (v := I (-1)) (M1 := mk (tx, pg, le, ln, tk, bd, vi, va, (up vl 632 (vp_updL (vl 632) 0 (I (-1)).toInt64)), vj, la, me)) (by
        rw [wq_atomAt]
        show (f_X11_atomAt F aScript (I t) (I b) (I p) (I w) (mk (tx, pg, le, ln, tk, bd, vi, va, vl, vj, la, me))).bind _ = _
        rw [e, Option.bind_some, if_pos rfl, out_ok]
        rfl) k2 k1 vlq
    · obtain ⟨vi', k1, k2⟩ := m0_atomAt (F := F) (tx := tx) (pg := pg) (le := le) (ln := ln) (tk := tk) (bd := bd) (vi := vi) (va := va) (vl := vl) (vj := vj) (la := la) (me := me) hb t0 t1 p0 p1 w0 w1 h6
      rw [if_pos ht, if_neg hw] at k1
      rw [if_pos ht, if_neg hw] at e
      exact ag_err (c := 2) (M1 := mk (tx, pg, le, ln, tk, bd, vi, va, vl, vj, la, me)) (by
        rw [wq_atomAt]
        show (f_X11_atomAt F aScript (I t) (I b) (I p) (I w) (mk (tx, pg, le, ln, tk, bd, vi, va, vl, vj, la, me))).bind _ = _
        rw [e]
        rfl) k2 (by rw [k1]; rfl) (by decide)
  · obtain ⟨vi', k1, k2⟩ := m0_atomAt (F := F) (tx := tx) (pg := pg) (le := le) (ln := ln) (tk := tk) (bd := bd) (vi := vi) (va := va) (vl := vl) (vj := vj) (la := la) (me := me) hb t0 t1 p0 p1 w0 w1 h6
    rw [if_neg ht] at k1
    rw [if_neg ht] at e
    exact ag_err (c := 1) (M1 := mk (tx, pg, le, ln, tk, bd, vi, va, vl, vj, la, me)) (by
      rw [wq_atomAt]
      show (f_X11_atomAt F aScript (I t) (I b) (I p) (I w) (mk (tx, pg, le, ln, tk, bd, vi, va, vl, vj, la, me))).bind _ = _
      rw [e]
      rfl) k2 (by rw [k1]; rfl) (by decide)
theorem pc_pin (hF : 25 ≤ F) (h : FR tx le tk vi va) (t : Int32) (p : Int32) (k : Int32) (a : Int32) (b : Int32) (c : Int32) : Agrees F (f_L_pin F 0 t p k a b c 632 (mk (tx, pg, le, ln, tk, bd, vi, va, vl, vj, la, me))) (fun M => f_X12_pin F 570 t p k a b c M) (fun v => v.toInt64) := by
  obtain ⟨h1, h2, h3, ⟨g1, g2, g3, g4, g5, g6, g7⟩, h5, h6, h7, h8⟩ := h
  obtain ⟨t, rfl, t0, t1⟩ := I_ex t
  obtain ⟨p, rfl, p0, p1⟩ := I_ex p
  obtain ⟨k, rfl, k0, k1⟩ := I_ex k
  obtain ⟨a, rfl, a0, a1⟩ := I_ex a
  obtain ⟨b, rfl, b0, b1⟩ := I_ex b
  obtain ⟨c, rfl, c0, c1⟩ := I_ex c
  obtain ⟨tk', e⟩ := x_pin0 (F := F) (tx := tx) (pg := pg) (le := le) (ln := ln) (tk := tk) (bd := bd) (vi := vi) (va := va) (vl := vl) (vj := vj) (la := la) (me := me) t0 t1 p0 p1 k0 k1 a0 a1 b0 b1 c0 c1 (by omega) h1.1 (fun t ht j hj => (h3 _ (is_eScript_tasks ht)).2.2.2 j hj)
  by_cases ht : 0 ≤ t ∧ t < 3 ∧ 0 ≤ p ∧ p < 4
  · by_cases hk : pinOK k a b c
    · by_cases hk0 : k = 0
      · obtain ⟨vi', va', v, m1, m2, m3⟩ := m_pin0 (F := F) (tx := tx) (pg := pg) (le := le) (ln := ln) (tk := tk) (bd := bd) (vi := vi) (va := va) (vl := vl) (vj := vj) (la := la) (me := me) t0 t1 p0 p1 k0 k1 a0 a1 b0 b1 c0 c1 (by omega) g4 h8
        rw [if_pos ht, if_pos hk, if_pos hk0] at e m1
        exact ag_err (c := 3) (M1 := mk (tx, pg, le, ln, tk, bd, vi, va, vl, vj, la, me)) (by
          rw [wq_pin]
          show (f_X11_pin F aScript (I t) (I p) (I k) (I a) (I b) (I c) (mk (tx, pg, le, ln, tk, bd, vi, va, vl, vj, la, me))).bind _ = _
          rw [e]
          rfl) m2 (by rw [m1]; rfl) (by decide)
      · obtain ⟨vi', va', v, m1, m2, m3⟩ := m_pin0 (F := F) (tx := tx) (pg := pg) (le := le) (ln := ln) (tk := tk') (bd := bd) (vi := vi) (va := va) (vl := up vl 632 (vp_updL (vl 632) 0 (I (if k = -1 then 0 else 1)).toInt64)) (vj := vj) (la := la) (me := me) t0 t1 p0 p1 k0 k1 a0 a1 b0 b1 c0 c1 (by omega) g4 h8
        rw [if_pos ht, if_pos hk, if_neg hk0] at e m1
        exact ag_ok (M1 := mk (tx, pg, le, ln, (tk'), bd, vi, va, (up vl 632 (vp_updL (vl 632) 0 (I (if k = -1 then 0 else 1)).toInt64)), vj, la, me)) (by
          rw [wq_pin]
          show (f_X11_pin F aScript (I t) (I p) (I k) (I a) (I b) (I c) (mk (tx, pg, le, ln, tk, bd, vi, va, vl, vj, la, me))).bind _ = _
          rw [e, Option.bind_some, if_pos rfl, out_ok]
          rfl) m2 m1 (by rw [m3 ht hk hk0]; exact vlq)
    · obtain ⟨vi', va', v, m1, m2, m3⟩ := m_pin0 (F := F) (tx := tx) (pg := pg) (le := le) (ln := ln) (tk := tk) (bd := bd) (vi := vi) (va := va) (vl := vl) (vj := vj) (la := la) (me := me) t0 t1 p0 p1 k0 k1 a0 a1 b0 b1 c0 c1 (by omega) g4 h8
      rw [if_pos ht, if_neg hk] at e m1
      exact ag_err (c := 2) (M1 := mk (tx, pg, le, ln, tk, bd, vi, va, vl, vj, la, me)) (by
        rw [wq_pin]
        show (f_X11_pin F aScript (I t) (I p) (I k) (I a) (I b) (I c) (mk (tx, pg, le, ln, tk, bd, vi, va, vl, vj, la, me))).bind _ = _
        rw [e]
        rfl) m2 (by rw [m1]; rfl) (by decide)
  · obtain ⟨vi', va', v, m1, m2, m3⟩ := m_pin0 (F := F) (tx := tx) (pg := pg) (le := le) (ln := ln) (tk := tk) (bd := bd) (vi := vi) (va := va) (vl := vl) (vj := vj) (la := la) (me := me) t0 t1 p0 p1 k0 k1 a0 a1 b0 b1 c0 c1 (by omega) g4 h8
    rw [if_neg ht] at e m1
    exact ag_err (c := 1) (M1 := mk (tx, pg, le, ln, tk, bd, vi, va, vl, vj, la, me)) (by
      rw [wq_pin]
      show (f_X11_pin F aScript (I t) (I p) (I k) (I a) (I b) (I c) (mk (tx, pg, le, ln, tk, bd, vi, va, vl, vj, la, me))).bind _ = _
      rw [e]
      rfl) m2 (by rw [m1]; rfl) (by decide)
end
