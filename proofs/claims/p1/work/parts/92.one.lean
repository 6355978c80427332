/-! ONE CALL ON NEW OBJECTS: the law ends, true -/
section
variable {F : Nat} {tx : Nat → ZText} {pg : Nat → ZProg} {le : Nat → ZLearnt} {ln : Nat → ZLine} {tk : Nat → ZTask} {bd : Nat → ZBoard} {vi : Nat → Int32} {va : Nat → Nat → Int32} {vl : Nat → Nat → Int64} {vj : Int64} {la : Option Nat} {me : Nat → Option Nat}
theorem bo_ex (x : Int32) : ∃ b : Int, (b = 0 ∨ b = 1) ∧ (if x = 0 then (0 : Int32) else 1) = I b := by
  by_cases h : x = 0
  · exact ⟨0, Or.inl rfl, by rw [if_pos h]; rfl⟩
  · exact ⟨1, Or.inr rfl, by rw [if_neg h]; rfl⟩
theorem new_ends {b L : Nat} {xs : Nat → Int32} (hL : L ≤ 7) (hF : 25 ≤ F) (h : FR tx le tk vi va) : ∃ k, k ≤ 1 ∧ Ends F b L xs k 0 (mk (tx, pg, le, ln, tk, bd, vi, va, vl, vj, la, me)) := by
  by_cases h7 : L = 7
  · refine ⟨1, Nat.le_refl 1, ?_⟩
    have hex : ∀ M, Ends F b L xs 0 (0 + 7) M := fun M => ends_exit (by decide) (by omega) (by omega) (by decide)
    have a0 : (0 : Int) ≤ 0 := by decide
    have a1 : (0 : Int) + 7 ≤ L := by omega
    have a2 : L ≤ 3584 := by omega
    obtain ⟨h1, h2, h3, ⟨g1, g2, g3, g4, g5, g6, g7⟩, h5, h6, h7, h8⟩ := id h
    by_cases o0 : xs (0 : Int).toNat &&& 31 = 0
    · obtain ⟨c, v, M1, M2, M3, e1, e2, e3, e4⟩ := pc_type (pg := pg) (ln := ln) (bd := bd) (vl := vl) (vj := vj) (la := la) (me := me) hF h (xs (0 + 1 : Int).toNat)
      exact ends_type a0 a1 a2 o0 e1 e2 e3 e4 (hex _)
    by_cases o1 : xs (0 : Int).toNat &&& 31 = 1
    · obtain ⟨c, v, M1, M2, M3, e1, e2, e3, e4⟩ := pc_line (pg := pg) (ln := ln) (bd := bd) (vl := vl) (vj := vj) (la := la) (me := me) hF h 
      exact ends_line a0 a1 a2 o1 e1 e2 e3 e4 (hex _)
    by_cases o2 : xs (0 : Int).toNat &&& 31 = 2
    · obtain ⟨c, v, M1, M2, M3, e1, e2, e3, e4⟩ := pc_length (pg := pg) (ln := ln) (bd := bd) (vl := vl) (vj := vj) (la := la) (me := me) hF h (xs (0 + 1 : Int).toNat)
      exact ends_length a0 a1 a2 o2 e1 e2 e3 e4 (hex _)
    by_cases o3 : xs (0 : Int).toNat &&& 31 = 3
    · obtain ⟨c, v, M1, M2, M3, e1, e2, e3, e4⟩ := pc_signAt (pg := pg) (ln := ln) (bd := bd) (vl := vl) (vj := vj) (la := la) (me := me) hF h (xs (0 + 1 : Int).toNat) (xs (0 + 2 : Int).toNat)
      exact ends_signAt a0 a1 a2 o3 e1 e2 e3 e4 (hex _)
    by_cases o4 : xs (0 : Int).toNat &&& 31 = 4
    · obtain ⟨c, v, M1, M2, M3, e1, e2, e3, e4⟩ := pc_placeOf (pg := pg) (ln := ln) (bd := bd) (vl := vl) (vj := vj) (la := la) (me := me) hF h (xs (0 + 1 : Int).toNat) (xs (0 + 2 : Int).toNat)
      exact ends_placeOf a0 a1 a2 o4 e1 e2 e3 e4 (hex _)
    by_cases o5 : xs (0 : Int).toNat &&& 31 = 5
    · obtain ⟨c, v, M1, M2, M3, e1, e2, e3, e4⟩ := pc_show (pg := pg) (ln := ln) (bd := bd) (vl := vl) (vj := vj) (la := la) (me := me) hF h (xs (0 + 1 : Int).toNat) (xs (0 + 2 : Int).toNat)
      exact ends_show a0 a1 a2 o5 e1 e2 e3 e4 (hex _)
    by_cases o6 : xs (0 : Int).toNat &&& 31 = 6
    · obtain ⟨c, v, M1, M2, M3, e1, e2, e3, e4⟩ := pc_refuse (pg := pg) (ln := ln) (bd := bd) (vl := vl) (vj := vj) (la := la) (me := me) hF h (xs (0 + 1 : Int).toNat) (xs (0 + 2 : Int).toNat)
      exact ends_refuse a0 a1 a2 o6 e1 e2 e3 e4 (hex _)
    by_cases o7 : xs (0 : Int).toNat &&& 31 = 7
    · obtain ⟨c, v, M1, M2, M3, e1, e2, e3, e4⟩ := pc_pin (pg := pg) (ln := ln) (bd := bd) (vl := vl) (vj := vj) (la := la) (me := me) hF h (xs (0 + 1 : Int).toNat) (xs (0 + 2 : Int).toNat) (xs (0 + 3 : Int).toNat) (xs (0 + 4 : Int).toNat) (xs (0 + 5 : Int).toNat) (xs (0 + 6 : Int).toNat)
      exact ends_pin a0 a1 a2 o7 e1 e2 e3 e4 (hex _)
    by_cases o8 : xs (0 : Int).toNat &&& 31 = 8
    · obtain ⟨c, v, M1, M2, M3, e1, e2, e3, e4⟩ := pc_learn (pg := pg) (ln := ln) (bd := bd) (vl := vl) (vj := vj) (la := la) (me := me) hF h (xs (0 + 1 : Int).toNat)
      exact ends_learn a0 a1 a2 o8 e1 e2 e3 e4 (hex _)
    by_cases o9 : xs (0 : Int).toNat &&& 31 = 9
    · obtain ⟨c, v, M1, M2, M3, e1, e2, e3, e4⟩ := pc_count (pg := pg) (ln := ln) (bd := bd) (vl := vl) (vj := vj) (la := la) (me := me) hF h (xs (0 + 1 : Int).toNat)
      exact ends_count a0 a1 a2 o9 e1 e2 e3 e4 (hex _)
    by_cases o10 : xs (0 : Int).toNat &&& 31 = 10
    · obtain ⟨c, v, M1, M2, M3, e1, e2, e3, e4⟩ := pc_weight (pg := pg) (ln := ln) (bd := bd) (vl := vl) (vj := vj) (la := la) (me := me) hF h (xs (0 + 1 : Int).toNat) (xs (0 + 2 : Int).toNat)
      exact ends_weight a0 a1 a2 o10 e1 e2 e3 e4 (hex _)
    by_cases o11 : xs (0 : Int).toNat &&& 31 = 11
    · obtain ⟨c, v, M1, M2, M3, e1, e2, e3, e4⟩ := pc_question (pg := pg) (ln := ln) (bd := bd) (vl := vl) (vj := vj) (la := la) (me := me) hF h (xs (0 + 1 : Int).toNat)
      exact ends_question a0 a1 a2 o11 e1 e2 e3 e4 (hex _)
    by_cases o12 : xs (0 : Int).toNat &&& 31 = 12
    · obtain ⟨c, v, M1, M2, M3, e1, e2, e3, e4⟩ := pc_condition (pg := pg) (ln := ln) (bd := bd) (vl := vl) (vj := vj) (la := la) (me := me) hF h (xs (0 + 1 : Int).toNat)
      exact ends_condition a0 a1 a2 o12 e1 e2 e3 e4 (hex _)
    by_cases o13 : xs (0 : Int).toNat &&& 31 = 13
    · obtain ⟨b, hb, eb⟩ := bo_ex (xs (0 + 2 : Int).toNat)
      obtain ⟨c, v, M1, M2, M3, e1, e2, e3, e4⟩ := pc_atomAt (pg := pg) (ln := ln) (bd := bd) (vl := vl) (vj := vj) (la := la) (me := me) hF h (xs (0 + 1 : Int).toNat) hb (xs (0 + 3 : Int).toNat) (xs (0 + 4 : Int).toNat)
      exact ends_atomAt a0 a1 a2 o13 (by rw [eb]; exact e1) (by rw [eb]; exact e2) e3 e4 (hex _)
    by_cases o14 : xs (0 : Int).toNat &&& 31 = 14
    · obtain ⟨c, v, M1, M2, M3, e1, e2, e3, e4⟩ := pc_preview (pg := pg) (ln := ln) (bd := bd) (vl := vl) (vj := vj) (la := la) (me := me) hF h (xs (0 + 1 : Int).toNat) (xs (0 + 2 : Int).toNat) (xs (0 + 3 : Int).toNat)
      exact ends_preview a0 a1 a2 o14 e1 e2 e3 e4 (hex _)
    by_cases o15 : xs (0 : Int).toNat &&& 31 = 15
    · obtain ⟨c, v, M1, M2, M3, e1, e2, e3, e4⟩ := pc_run (pg := pg) (ln := ln) (bd := bd) (vl := vl) (vj := vj) (la := la) (me := me) hF h (xs (0 + 1 : Int).toNat) (xs (0 + 2 : Int).toNat) (xs (0 + 3 : Int).toNat) (xs (0 + 4 : Int).toNat)
      exact ends_run a0 a1 a2 o15 e1 e2 e3 e4 (hex _)
    by_cases o16 : xs (0 : Int).toNat &&& 31 = 16
    · exact ends_runs a0 a1 a2 o16 (v := I 0) (by
        show f_X11_runs F aScript (mk (tx, pg, le, ln, tk, bd, vi, va, vl, vj, la, me)) = _
        rw [x_runs, g2]) (by
        show f_X12_runs F aModel _ = _
        rw [m_runs, g6]) (hex _)
    by_cases o17 : xs (0 : Int).toNat &&& 31 = 17
    · obtain ⟨c, v, M1, M2, M3, e1, e2, e3, e4⟩ := pc_undo (pg := pg) (ln := ln) (bd := bd) (vl := vl) (vj := vj) (la := la) (me := me) hF h (xs (0 + 1 : Int).toNat)
      exact ends_undo a0 a1 a2 o17 e1 e2 e3 e4 (hex _)
    by_cases o18 : xs (0 : Int).toNat &&& 31 = 18
    · obtain ⟨b, hb, eb⟩ := bo_ex (xs (0 + 2 : Int).toNat)
      obtain ⟨c, v, M1, M2, M3, e1, e2, e3, e4⟩ := pc_stand (pg := pg) (ln := ln) (bd := bd) (vl := vl) (vj := vj) (la := la) (me := me) hF h (xs (0 + 1 : Int).toNat) hb
      exact ends_stand a0 a1 a2 o18 (by rw [eb]; exact e1) (by rw [eb]; exact e2) e3 e4 (hex _)
    by_cases o19 : xs (0 : Int).toNat &&& 31 = 19
    · exact ends_asked a0 a1 a2 o19 (v := I 0) (by
        show f_X11_asked F aScript (mk (tx, pg, le, ln, tk, bd, vi, va, vl, vj, la, me)) = _
        rw [x_asked, g3]) (by
        show f_X12_asked F aModel _ = _
        rw [m_asked, up_ne (by decide), g7]) (hex _)
    refine ends_skip a0 a1 a2 (fun c c0 c1 q => ?_) (hex _)
    obtain ⟨n, rfl, n0, n1⟩ := I_ex c
    have e0 : ((0 : Int32) ≤ I n) = ((0 : Int) ≤ n) := I_le (a := 0) (by decide) (by decide) n0 n1
    have e1 : (I n < 20) = (n < 20) := I_lt (b := 20) n0 n1 (by decide) (by decide)
    have k0 := e0.mp c0
    have k1 := e1.mp c1
    have hn : n = 0 ∨ n = 1 ∨ n = 2 ∨ n = 3 ∨ n = 4 ∨ n = 5 ∨ n = 6 ∨ n = 7 ∨ n = 8 ∨ n = 9 ∨ n = 10 ∨ n = 11 ∨ n = 12 ∨ n = 13 ∨ n = 14 ∨ n = 15 ∨ n = 16 ∨ n = 17 ∨ n = 18 ∨ n = 19 := by omega
    rcases hn with rfl | rfl | rfl | rfl | rfl | rfl | rfl | rfl | rfl | rfl | rfl | rfl | rfl | rfl | rfl | rfl | rfl | rfl | rfl | rfl
    · exact o0 q
    · exact o1 q
    · exact o2 q
    · exact o3 q
    · exact o4 q
    · exact o5 q
    · exact o6 q
    · exact o7 q
    · exact o8 q
    · exact o9 q
    · exact o10 q
    · exact o11 q
    · exact o12 q
    · exact o13 q
    · exact o14 q
    · exact o15 q
    · exact o16 q
    · exact o17 q
    · exact o18 q
    · exact o19 q
  · exact ⟨0, Nat.zero_le 1, ends_exit (by decide) (by omega) (by omega) (by decide)⟩
end
theorem fr_z0 : FR z0.1 z0.2.2.1 z0.2.2.2.2.1 z0.2.2.2.2.2.2.1 z0.2.2.2.2.2.2.2.1 := by
  refine ⟨txt_nil rfl (fun k hk => rfl), fun a ha => rfl, fun a ha => ⟨rfl, rfl, rfl, fun j hj => ?_⟩, ⟨rfl, rfl, rfl, rfl, rfl, rfl, rfl⟩, fun k hk => rfl, fun k hk => rfl, fun k hk => rfl, fun j hj => ?_⟩
  · have : j = 0 ∨ j = 1 ∨ j = 2 ∨ j = 3 := by omega
    rcases this with rfl | rfl | rfl | rfl <;> rfl
  · have : j = 0 ∨ j = 1 ∨ j = 2 ∨ j = 3 ∨ j = 4 ∨ j = 5 ∨ j = 6 ∨ j = 7 ∨ j = 8 ∨ j = 9 ∨ j = 10 ∨ j = 11 := by omega
    rcases this with rfl | rfl | rfl | rfl | rfl | rfl | rfl | rfl | rfl | rfl | rfl | rfl <;> rfl
theorem z0_ends {b L : Nat} {xs : Nat → Int32} (hL : L ≤ 7) : ∃ k, k ≤ 1 ∧ Ends 300000 b L xs k 0 (mk z0) := new_ends hL (Nat.le_of_ble_eq_true rfl) fr_z0

