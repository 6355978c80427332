/-! AN EXAMPLE'S BOARD -/
def mB (P : Nat → Bool) : Nat → Nat
  | 0 => 0
  | n + 1 => mB P n ||| (if P n = true then 2 ^ n else 0)
theorem mB_lt (P : Nat → Bool) : ∀ n, mB P n < 2 ^ n
  | 0 => by unfold mB; decide
  | n + 1 => by
    have h := mB_lt P n
    unfold mB
    apply Nat.or_lt_two_pow
    · rw [Nat.pow_succ]; omega
    · split
      · exact Nat.pow_lt_pow_right (by omega) (by omega)
      · exact Nat.two_pow_pos _
theorem mB_bit (P : Nat → Bool) (i : Nat) : ∀ n, (mB P n).testBit i = (decide (i < n) && P i)
  | 0 => by unfold mB; simp
  | n + 1 => by
    unfold mB
    rw [Nat.testBit_or, mB_bit P i n]
    by_cases h : P n = true
    · rw [if_pos h, Nat.testBit_two_pow]
      by_cases hi : n = i
      · subst hi
        simp [h]
      · have : (i < n + 1) = (i < n) := by apply propext; omega
        simp [this, hi]
    · rw [if_neg h, Nat.zero_testBit, Bool.or_false]
      by_cases hi : i = n
      · subst hi
        simp [h]
      · have : (i < n + 1) = (i < n) := by apply propext; omega
        simp [this]
/-- whether a text stands at a place of another one -/
def stands (t sh : Tx) (p : Nat) : Bool := decide (p + t.length ≤ sh.length ∧ (sh.drop p).take t.length = t)
def occ (t sh : Tx) : Nat := mB (stands t sh) 20
def psn (c : Int) (sh : Tx) : Nat := mB (fun i => decide (fa sh i = c)) sh.length
theorem occ_lt (t sh : Tx) : occ t sh < 1048576 := mB_lt _ 20
theorem occ_bit {t sh : Tx} (p : Nat) : (occ t sh).testBit p = (decide (p < 20) && stands t sh p) := mB_bit _ p 20
theorem psn_lt {c : Int} {sh : Tx} (h : sh.length ≤ 20) : psn c sh < 1048576 := Nat.lt_of_lt_of_le (mB_lt _ _) (Nat.pow_le_pow_right (by decide) h : 2 ^ sh.length ≤ 2 ^ 20)
theorem fa_drop {s : Tx} {p j : Nat} : fa (s.drop p) j = fa s (p + j) := by
  unfold fa
  rw [List.getD_eq_getElem?_getD, List.getD_eq_getElem?_getD, List.getElem?_drop]
theorem stands_succ {t sh : Tx} {p j : Nat} (hj : j < t.length) : stands (t.take (j + 1)) sh p = (stands (t.take j) sh p && (decide (j + p < sh.length) && decide (fa sh (j + p) = fa t j))) := by
  have l1 : (t.take (j + 1)).length = j + 1 := by rw [List.length_take]; omega
  have l2 : (t.take j).length = j := by rw [List.length_take]; omega
  unfold stands
  rw [l1, l2]
  by_cases h : j + p < sh.length
  · have e1 : (sh.drop p).take (j + 1) = (sh.drop p).take j ++ [fa sh (j + p)] := by
      rw [← take_fa (by rw [List.length_drop]; omega), fa_drop, Nat.add_comm p j]
    have e2 : t.take (j + 1) = t.take j ++ [fa t j] := (take_fa hj).symm
    have l3 : ((sh.drop p).take j).length = j := by rw [List.length_take, List.length_drop]; omega
    rw [decide_eq_true h, Bool.true_and]
    rw [Bool.eq_iff_iff, decide_eq_true_iff, Bool.and_eq_true, decide_eq_true_iff, decide_eq_true_iff, e1, e2]
    constructor
    · rintro ⟨a, b⟩
      have := List.append_inj b (by rw [l3, l2])
      refine ⟨⟨by omega, this.1⟩, ?_⟩
      have h2 := this.2
      simpa using h2
    · rintro ⟨⟨a, b⟩, c⟩
      exact ⟨by omega, by rw [b, c]⟩
  · rw [decide_eq_false h, Bool.false_and, Bool.and_false, decide_eq_false]
    omega
/-- the places that are left behind j signs -/
def plx (t sh : Tx) (j : Nat) : Int32 := if j = 0 then I (-1) else I (occ (t.take j) sh : Nat)
theorem I_m1 (x : Int32) : I (-1) &&& x = x := Int32.toBitVec_inj.mp (by
  rw [Int32.toBitVec_and, show (I (-1)).toBitVec = BitVec.allOnes 32 from rfl, BitVec.allOnes_and])
theorem plx_step {t sh : Tx} {j : Nat} (hj : j < t.length) (hj20 : j < 20) (hl : sh.length ≤ 20) : plx t sh j &&& I ((psn (fa t j) sh >>> j : Nat) : Int) = plx t sh (j + 1) := by
  unfold plx
  rw [if_neg (Nat.succ_ne_zero j)]
  by_cases h : j = 0
  · subst h
    rw [if_pos rfl, I_m1]
    congr 2
    apply Nat.eq_of_testBit_eq
    intro p
    rw [Nat.shiftRight_zero, occ_bit, stands_succ hj]
    unfold psn
    rw [mB_bit, Nat.zero_add]
    have h0 : stands (t.take 0) sh p = decide (p ≤ sh.length) := by
      unfold stands
      simp
    rw [h0]
    by_cases g : p < sh.length
    · rw [decide_eq_true g, decide_eq_true (show p < 20 by omega), decide_eq_true (show p ≤ sh.length by omega)]
      rfl
    · rw [decide_eq_false g]
      simp
  · rw [if_neg h, I_and]
    congr 2
    apply Nat.eq_of_testBit_eq
    intro p
    rw [Nat.testBit_and, Nat.testBit_shiftRight, occ_bit, occ_bit, stands_succ hj]
    unfold psn
    rw [mB_bit, Bool.and_assoc]
/-- what a board holds of an example -/
def brd (tx : Nat → ZText) (v : ZBoard) (a : Nat) (m : Tx × Tx) : Prop := txt (tx (aBoard_was a)) m.1 ∧ txt (tx (aBoard_shown a)) m.2 ∧ (∀ i, i < 30 → v.1 i = I (plc m.1 i)) ∧ (∀ w b e, w < 4 → b < e → e ≤ m.1.length → v.2.2.1 ((w * 21 + b) * 21 + e) = I (occ (cutF m.1 b e w b) m.2 : Nat)) ∧ ∀ q, q < 72 → match mkA (.inr (3600 + q)) m.1 with
  | none => v.2.2.2.1 q = I ((0 : Nat) : Int)
  | some t => v.2.2.2.1 q = I (occ t m.2 : Nat) ∧ v.2.2.2.2 q = I (t.length : Nat)
section
variable {F : Nat}
theorem x_narrowed {a : Nat} {tx : Nat → ZText} {pg : Nat → ZProg} {le : Nat → ZLearnt} {ln : Nat → ZLine} {tk : Nat → ZTask} {bd : Nat → ZBoard} {vi : Nat → Int32} {va : Nat → Nat → Int32} {vl : Nat → Nat → Int64} {vj : Int64} {la : Option Nat} {me : Nat → Option Nat} (hB : isBoard a) {sh : Tx} (hsh : sh.length ≤ 20) (hpos : ∀ c : Nat, c < 128 → (bd a).2.1 c = I (psn c sh : Nat)) {P : Int32} {c : Int} {j : Nat} (hc : okS c) (hj : j < 20) : f_X1_narrowed F a P (I c) (I (j : Nat)) (mk (tx, pg, le, ln, tk, bd, vi, va, vl, vj, la, me)) = some (P &&& I ((psn c sh >>> j : Nat) : Int), mk (tx, pg, le, ln, tk, bd, vi, va, vl, vj, la, me)) := by
  have hb := okS_bd hc
  obtain ⟨n, rfl⟩ : ∃ n : Nat, c = n := ⟨c.toNat, by omega⟩
  have e1 : n &&& 127 = n := by
    rw [show (127 : Nat) = 2 ^ 7 - 1 from rfl, Nat.and_two_pow_sub_one_eq_mod]
    omega
  have e2 := hpos n (by omega)
  have e3 := psn_lt (c := n) hsh
  simp (disch := first | assumption | omega | exact is_Script_draft | exact is_Script_made | exact is_Learner_made | exact is_Learner_madeFirst | (apply is_eScript_tasks; omega) | (apply is_eScript_lines; omega) | (apply is_eScript_ranBy; omega)) only [↓reduceIte, ↓I_n1, obs, I_0n, l_1, l_2, l_3, l_4, l_5, l_6, l_7, l_8, l_11, l_12, l_15, l_16, l_18, l_20, l_21, l_29, l_30, l_31, l_32, l_33, l_39, l_40, l_44, l_45, l_46, l_47, l_48, l_53, l_57, l_63, l_64, l_65, l_66, l_71, l_72, l_75, l_90, l_97, l_120, l_122, l_127, l_128, l_1812, l_3600, l_4000, l_252645135, l_268435456, l_858993459, l_1431655765, I_add, I_mul, I_sub, I_addN, I_mulN, I_subN, ilt_t, ilt_f, ile_t, ile_f, ieq_t, ieq_f, up_same, up_up, I_and, I_or, I_shlN, I_shrN, I_divN, I_remN, dzI, i2cI, narI, Int.toNat_natCast, true_or, or_true, false_or, or_false, true_and, and_true, false_and, and_false, not_true_eq_false, not_false_eq_true, cBoard, gBoard_was, gBoard_shown, gBoard_spots, nBoard_spots, rBoard_spots, wBoard_spots, gBoard_placesOfSign, nBoard_placesOfSign, rBoard_placesOfSign, wBoard_placesOfSign, gBoard_cutPlaces, nBoard_cutPlaces, rBoard_cutPlaces, wBoard_cutPlaces, gBoard_eachPlaces, nBoard_eachPlaces, rBoard_eachPlaces, wBoard_eachPlaces, gBoard_eachSizes, nBoard_eachSizes, rBoard_eachSizes, wBoard_eachSizes, gBoard_made, b_X1_narrowed_0, f_X1_narrowed_0, f_X1_narrowed, e1, e2]
/-- one begin of a CUT: all its ends -/
theorem x_lc20 {a : Nat} {K : Nat → Int32 → Int32 → cM → Option cM} (hB : isBoard a) {s sh : Tx} {w b : Nat} (hw : w < 4) (hsl : s.length ≤ 20) (hsh : sh.length ≤ 20) : ∀ (n e : Nat) (tx : Nat → ZText) (pg : Nat → ZProg) (le : Nat → ZLearnt) (ln : Nat → ZLine) (tk : Nat → ZTask) (bd : Nat → ZBoard) (vi : Nat → Int32) (va : Nat → Nat → Int32) (vl : Nat → Nat → Int64) (vj : Int64) (la : Option Nat) (me : Nat → Option Nat), b < e → e ≤ s.length + 1 → s.length + 2 - e ≤ n → txt (tx (aBoard_was a)) s → (∀ c : Nat, c < 128 → (bd a).2.1 c = I (psn c sh : Nat)) → ∃ c', f_X1_lookAtCuts_20 F K n a (I (w : Nat)) (I (b : Nat)) (plx (cutF s b s.length w b) sh (e - 1 - b)) (I (e : Nat)) (mk (tx, pg, le, ln, tk, bd, vi, va, vl, vj, la, me)) = K a (I (w : Nat)) (I ((b + 1 : Nat) : Int)) (mk (tx, pg, le, ln, tk, (up bd a ((bd a).1, (bd a).2.1, c', (bd a).2.2.2.1, (bd a).2.2.2.2)), vi, va, vl, vj, la, me)) ∧ (∀ e', e ≤ e' → e' ≤ s.length → c' ((w * 21 + b) * 21 + e') = I (occ (cutF s b e' w b) sh : Nat)) ∧ ∀ x, x < (w * 21 + b) * 21 + e ∨ (w * 21 + b) * 21 + 21 ≤ x → c' x = (bd a).2.2.1 x := by
  have hWas := is_Board_was hB
  intro n
  induction n with
  | zero => intros; omega
  | succ n ih =>
    intro e tx pg le ln tk bd vi va vl vj la me hbe he hn hs hpos
    rw [s_X1_lookAtCuts_20]
    by_cases g : e ≤ s.length
    · have hok := okT_fa hs.2.2.2.1 (show e - 1 < s.length by omega)
      have hat : f_X10_at F (aBoard_was a) (I ((e - 1 : Nat) : Int)) (mk (tx, pg, le, ln, tk, bd, vi, va, vl, vj, la, me)) = some (I (fa s (e - 1)), mk (tx, pg, le, ln, tk, bd, vi, va, vl, vj, la, me)) := by
        rw [x_at hWas hs (by omega) (by omega), if_pos (by omega)]
        rfl
      have hcl : (cutF s b s.length w b).length = s.length - b := cutF_len
      have hfa : fa (cutF s b s.length w b) (e - 1 - b) = trn (fa s (e - 1)) w (if e - 1 = b then 1 else 0) := by
        unfold cutF
        rw [fa_get (by rw [List.length_map, List.length_range']; omega), List.getElem_map, List.getElem_range']
        rw [show b + 1 * (e - 1 - b) = e - 1 by omega]
      have htake : (cutF s b s.length w b).take (e - b) = cutF s b e w b := by
        unfold cutF
        rw [← List.map_take, List.take_range'_of_length_ge (by omega)]
      have hstep := plx_step (t := cutF s b s.length w b) (sh := sh) (j := e - 1 - b) (by omega) (by omega) hsh
      rw [hfa] at hstep
      have hval : plx (cutF s b s.length w b) sh (e - 1 - b + 1) = I (occ (cutF s b e w b) sh : Nat) := by
        unfold plx
        rw [if_neg (by omega), show e - 1 - b + 1 = e - b by omega, htake]
      obtain ⟨c', e', h1, h2⟩ := ih (e + 1) tx pg le ln tk (up bd a ((bd a).1, (bd a).2.1, upd (bd a).2.2.1 ((w * 21 + b) * 21 + e) (I (occ (cutF s b e w b) sh : Nat)), (bd a).2.2.2.1, (bd a).2.2.2.2)) vi va vl vj la me (by omega) (by omega) (by omega) hs (by rw [up_same]; exact hpos)
      rw [up_same, up_up, show e + 1 - 1 - b = e - 1 - b + 1 by omega, hval] at e'
      rw [up_same] at h2
      dsimp only at h2 e'
      refine ⟨c', ?_, ?_, ?_⟩
      · by_cases gb : e - 1 = b
        · rw [if_pos gb] at hstep
          have ht : f_X7_turned F (I (fa s (e - 1))) (I (w : Nat)) (I ((1 : Nat) : Int)) (mk (tx, pg, le, ln, tk, bd, vi, va, vl, vj, la, me)) = some (I (trn (fa s (e - 1)) w 1), mk (tx, pg, le, ln, tk, bd, vi, va, vl, vj, la, me)) := x_turned (F := F) (M := mk (tx, pg, le, ln, tk, bd, vi, va, vl, vj, la, me)) (w := w) (f := 1) hok (by omega) (by omega) (Or.inr rfl)
          have hnr := x_narrowed (F := F) (tx := tx) (pg := pg) (le := le) (ln := ln) (tk := tk) (bd := bd) (vi := vi) (va := va) (vl := vl) (vj := vj) (la := la) (me := me) hB hsh hpos (P := plx (cutF s b s.length w b) sh (e - 1 - b)) (j := e - 1 - b) (trn_ok (w := w) (f := 1) hok) (by omega)
          rw [hstep, hval] at hnr
          simp (disch := first | assumption | omega | exact is_Script_draft | exact is_Script_made | exact is_Learner_made | exact is_Learner_madeFirst | (apply is_eScript_tasks; omega) | (apply is_eScript_lines; omega) | (apply is_eScript_ranBy; omega)) only [↓reduceIte, ↓I_n1, obs, I_0n, l_1, l_2, l_3, l_4, l_5, l_6, l_7, l_8, l_11, l_12, l_15, l_16, l_18, l_20, l_21, l_29, l_30, l_31, l_32, l_33, l_39, l_40, l_44, l_45, l_46, l_47, l_48, l_53, l_57, l_63, l_64, l_65, l_66, l_71, l_72, l_75, l_90, l_97, l_120, l_122, l_127, l_128, l_1812, l_3600, l_4000, l_252645135, l_268435456, l_858993459, l_1431655765, I_add, I_mul, I_sub, I_addN, I_mulN, I_subN, ilt_t, ilt_f, ile_t, ile_f, ieq_t, ieq_f, up_same, up_up, I_and, I_or, I_shlN, I_shrN, I_divN, I_remN, dzI, i2cI, narI, Int.toNat_natCast, true_or, or_true, false_or, or_false, true_and, and_true, false_and, and_false, not_true_eq_false, not_false_eq_true, cBoard, gBoard_was, gBoard_shown, gBoard_spots, nBoard_spots, rBoard_spots, wBoard_spots, gBoard_placesOfSign, nBoard_placesOfSign, rBoard_placesOfSign, wBoard_placesOfSign, gBoard_cutPlaces, nBoard_cutPlaces, rBoard_cutPlaces, wBoard_cutPlaces, gBoard_eachPlaces, nBoard_eachPlaces, rBoard_eachPlaces, wBoard_eachPlaces, gBoard_eachSizes, nBoard_eachSizes, rBoard_eachSizes, wBoard_eachSizes, gBoard_made, cText, gText_signs, nText_signs, rText_signs, wText_signs, gText_placesOf, nText_placesOf, rText_placesOf, wText_placesOf, gText_size, pText_size, b_X1_lookAtCuts_20, f_X1_lookAtCuts_57, b_X1_lookAtCuts_57, hs.1, hat, ht, hnr]
          exact e'
        · rw [if_neg gb] at hstep
          have ht : f_X7_turned F (I (fa s (e - 1))) (I (w : Nat)) (I ((0 : Nat) : Int)) (mk (tx, pg, le, ln, tk, bd, vi, va, vl, vj, la, me)) = some (I (trn (fa s (e - 1)) w 0), mk (tx, pg, le, ln, tk, bd, vi, va, vl, vj, la, me)) := x_turned (F := F) (M := mk (tx, pg, le, ln, tk, bd, vi, va, vl, vj, la, me)) (w := w) (f := 0) hok (by omega) (by omega) (Or.inl rfl)
          have hnr := x_narrowed (F := F) (tx := tx) (pg := pg) (le := le) (ln := ln) (tk := tk) (bd := bd) (vi := vi) (va := va) (vl := vl) (vj := vj) (la := la) (me := me) hB hsh hpos (P := plx (cutF s b s.length w b) sh (e - 1 - b)) (j := e - 1 - b) (trn_ok (w := w) (f := 0) hok) (by omega)
          rw [hstep, hval] at hnr
          simp (disch := first | assumption | omega | exact is_Script_draft | exact is_Script_made | exact is_Learner_made | exact is_Learner_madeFirst | (apply is_eScript_tasks; omega) | (apply is_eScript_lines; omega) | (apply is_eScript_ranBy; omega)) only [↓reduceIte, ↓I_n1, obs, I_0n, l_1, l_2, l_3, l_4, l_5, l_6, l_7, l_8, l_11, l_12, l_15, l_16, l_18, l_20, l_21, l_29, l_30, l_31, l_32, l_33, l_39, l_40, l_44, l_45, l_46, l_47, l_48, l_53, l_57, l_63, l_64, l_65, l_66, l_71, l_72, l_75, l_90, l_97, l_120, l_122, l_127, l_128, l_1812, l_3600, l_4000, l_252645135, l_268435456, l_858993459, l_1431655765, I_add, I_mul, I_sub, I_addN, I_mulN, I_subN, ilt_t, ilt_f, ile_t, ile_f, ieq_t, ieq_f, up_same, up_up, I_and, I_or, I_shlN, I_shrN, I_divN, I_remN, dzI, i2cI, narI, Int.toNat_natCast, true_or, or_true, false_or, or_false, true_and, and_true, false_and, and_false, not_true_eq_false, not_false_eq_true, cBoard, gBoard_was, gBoard_shown, gBoard_spots, nBoard_spots, rBoard_spots, wBoard_spots, gBoard_placesOfSign, nBoard_placesOfSign, rBoard_placesOfSign, wBoard_placesOfSign, gBoard_cutPlaces, nBoard_cutPlaces, rBoard_cutPlaces, wBoard_cutPlaces, gBoard_eachPlaces, nBoard_eachPlaces, rBoard_eachPlaces, wBoard_eachPlaces, gBoard_eachSizes, nBoard_eachSizes, rBoard_eachSizes, wBoard_eachSizes, gBoard_made, cText, gText_signs, nText_signs, rText_signs, wText_signs, gText_placesOf, nText_placesOf, rText_placesOf, wText_placesOf, gText_size, pText_size, b_X1_lookAtCuts_20, f_X1_lookAtCuts_57, b_X1_lookAtCuts_57, hs.1, hat, ht, hnr]
          exact e'
      · intro e2 q1 q2
        by_cases q : e2 = e
        · rw [q, h2 _ (by omega)]
          unfold upd
          rw [if_pos rfl]
        · exact h1 e2 (by omega) q2
      · intro x hx
        rw [h2 x (by omega)]
        unfold upd
        rw [if_neg (by omega)]
    · refine ⟨(bd a).2.2.1, ?_, fun e2 q1 q2 => absurd q2 (by omega), fun x hx => rfl⟩
      have : up bd a ((bd a).1, (bd a).2.1, (bd a).2.2.1, (bd a).2.2.2.1, (bd a).2.2.2.2) = bd := up_self
      rw [this]
      simp (disch := first | assumption | omega | exact is_Script_draft | exact is_Script_made | exact is_Learner_made | exact is_Learner_madeFirst | (apply is_eScript_tasks; omega) | (apply is_eScript_lines; omega) | (apply is_eScript_ranBy; omega)) only [↓reduceIte, ↓I_n1, obs, I_0n, l_1, l_2, l_3, l_4, l_5, l_6, l_7, l_8, l_11, l_12, l_15, l_16, l_18, l_20, l_21, l_29, l_30, l_31, l_32, l_33, l_39, l_40, l_44, l_45, l_46, l_47, l_48, l_53, l_57, l_63, l_64, l_65, l_66, l_71, l_72, l_75, l_90, l_97, l_120, l_122, l_127, l_128, l_1812, l_3600, l_4000, l_252645135, l_268435456, l_858993459, l_1431655765, I_add, I_mul, I_sub, I_addN, I_mulN, I_subN, ilt_t, ilt_f, ile_t, ile_f, ieq_t, ieq_f, up_same, up_up, I_and, I_or, I_shlN, I_shrN, I_divN, I_remN, dzI, i2cI, narI, Int.toNat_natCast, true_or, or_true, false_or, or_false, true_and, and_true, false_and, and_false, not_true_eq_false, not_false_eq_true, cBoard, gBoard_was, gBoard_shown, gBoard_spots, nBoard_spots, rBoard_spots, wBoard_spots, gBoard_placesOfSign, nBoard_placesOfSign, rBoard_placesOfSign, wBoard_placesOfSign, gBoard_cutPlaces, nBoard_cutPlaces, rBoard_cutPlaces, wBoard_cutPlaces, gBoard_eachPlaces, nBoard_eachPlaces, rBoard_eachPlaces, wBoard_eachPlaces, gBoard_eachSizes, nBoard_eachSizes, rBoard_eachSizes, wBoard_eachSizes, gBoard_made, cText, gText_signs, nText_signs, rText_signs, wText_signs, gText_placesOf, nText_placesOf, rText_placesOf, wText_placesOf, gText_size, pText_size, b_X1_lookAtCuts_20, hs.1]
theorem x_lc2 {a : Nat} (hB : isBoard a) {s sh : Tx} {w : Nat} (hw : w < 4) (hsl : s.length ≤ 20) (hsh : sh.length ≤ 20) (hF : 200000 ≤ F) : ∀ (n b : Nat) (tx : Nat → ZText) (pg : Nat → ZProg) (le : Nat → ZLearnt) (ln : Nat → ZLine) (tk : Nat → ZTask) (bd : Nat → ZBoard) (vi : Nat → Int32) (va : Nat → Nat → Int32) (vl : Nat → Nat → Int64) (vj : Int64) (la : Option Nat) (me : Nat → Option Nat), b ≤ s.length → s.length + 1 - b ≤ n → txt (tx (aBoard_was a)) s → (∀ c : Nat, c < 128 → (bd a).2.1 c = I (psn c sh : Nat)) → ∃ c', f_X1_lookAtCuts_2 F n a (I (w : Nat)) (I (b : Nat)) (mk (tx, pg, le, ln, tk, bd, vi, va, vl, vj, la, me)) = some (mk (tx, pg, le, ln, tk, (up bd a ((bd a).1, (bd a).2.1, c', (bd a).2.2.2.1, (bd a).2.2.2.2)), vi, va, vl, vj, la, me)) ∧ (∀ b' e', b ≤ b' → b' < e' → e' ≤ s.length → c' ((w * 21 + b') * 21 + e') = I (occ (cutF s b' e' w b') sh : Nat)) ∧ ∀ x, x < (w * 21 + b) * 21 ∨ (w * 21 + 21) * 21 ≤ x → c' x = (bd a).2.2.1 x := by
  have hWas := is_Board_was hB
  intro n
  induction n with
  | zero => intros; omega
  | succ n ih =>
    intro b tx pg le ln tk bd vi va vl vj la me hb hn hs hpos
    rw [s_X1_lookAtCuts_2]
    by_cases g : b < s.length
    · obtain ⟨c1, e1, h1, h2⟩ := x_lc20 (F := F) (s := s) (sh := sh) (b := b) (K := f_X1_lookAtCuts_2 F n) hB hw hsl hsh F (b + 1) tx pg le ln tk bd vi va vl vj la me (by omega) (by omega) (by omega) hs hpos
      obtain ⟨c2, e2, h3, h4⟩ := ih (b + 1) tx pg le ln tk (up bd a ((bd a).1, (bd a).2.1, c1, (bd a).2.2.2.1, (bd a).2.2.2.2)) vi va vl vj la me (by omega) (by omega) hs (by rw [up_same]; exact hpos)
      rw [up_same, up_up] at e2
      rw [up_same] at h4
      dsimp only at h4 e2
      have hp0 : plx (cutF s b s.length w b) sh (b + 1 - 1 - b) = I (-1) := by
        unfold plx
        rw [if_pos (by omega)]
      rw [hp0] at e1
      refine ⟨c2, ?_, ?_, ?_⟩
      · simp (disch := first | assumption | omega | exact is_Script_draft | exact is_Script_made | exact is_Learner_made | exact is_Learner_madeFirst | (apply is_eScript_tasks; omega) | (apply is_eScript_lines; omega) | (apply is_eScript_ranBy; omega)) only [↓reduceIte, ↓I_n1, obs, I_0n, l_1, l_2, l_3, l_4, l_5, l_6, l_7, l_8, l_11, l_12, l_15, l_16, l_18, l_20, l_21, l_29, l_30, l_31, l_32, l_33, l_39, l_40, l_44, l_45, l_46, l_47, l_48, l_53, l_57, l_63, l_64, l_65, l_66, l_71, l_72, l_75, l_90, l_97, l_120, l_122, l_127, l_128, l_1812, l_3600, l_4000, l_252645135, l_268435456, l_858993459, l_1431655765, I_add, I_mul, I_sub, I_addN, I_mulN, I_subN, ilt_t, ilt_f, ile_t, ile_f, ieq_t, ieq_f, up_same, up_up, I_and, I_or, I_shlN, I_shrN, I_divN, I_remN, dzI, i2cI, narI, Int.toNat_natCast, true_or, or_true, false_or, or_false, true_and, and_true, false_and, and_false, not_true_eq_false, not_false_eq_true, cBoard, gBoard_was, gBoard_shown, gBoard_spots, nBoard_spots, rBoard_spots, wBoard_spots, gBoard_placesOfSign, nBoard_placesOfSign, rBoard_placesOfSign, wBoard_placesOfSign, gBoard_cutPlaces, nBoard_cutPlaces, rBoard_cutPlaces, wBoard_cutPlaces, gBoard_eachPlaces, nBoard_eachPlaces, rBoard_eachPlaces, wBoard_eachPlaces, gBoard_eachSizes, nBoard_eachSizes, rBoard_eachSizes, wBoard_eachSizes, gBoard_made, cText, gText_signs, nText_signs, rText_signs, wText_signs, gText_placesOf, nText_placesOf, rText_placesOf, wText_placesOf, gText_size, pText_size, b_X1_lookAtCuts_2, hs.1]
        exact e1.trans e2
      · intro b' e' q1 q2 q3
        by_cases q : b' = b
        · rw [q, h4 _ (by omega)]
          exact h1 e' (by omega) q3
        · exact h3 b' e' (by omega) q2 q3
      · intro x hx
        rw [h4 x (by omega)]
        exact h2 x (by omega)
    · refine ⟨(bd a).2.2.1, ?_, fun b' e' q1 q2 q3 => absurd q3 (by omega), fun x hx => rfl⟩
      have : up bd a ((bd a).1, (bd a).2.1, (bd a).2.2.1, (bd a).2.2.2.1, (bd a).2.2.2.2) = bd := up_self
      rw [this]
      simp (disch := first | assumption | omega | exact is_Script_draft | exact is_Script_made | exact is_Learner_made | exact is_Learner_madeFirst | (apply is_eScript_tasks; omega) | (apply is_eScript_lines; omega) | (apply is_eScript_ranBy; omega)) only [↓reduceIte, ↓I_n1, obs, I_0n, l_1, l_2, l_3, l_4, l_5, l_6, l_7, l_8, l_11, l_12, l_15, l_16, l_18, l_20, l_21, l_29, l_30, l_31, l_32, l_33, l_39, l_40, l_44, l_45, l_46, l_47, l_48, l_53, l_57, l_63, l_64, l_65, l_66, l_71, l_72, l_75, l_90, l_97, l_120, l_122, l_127, l_128, l_1812, l_3600, l_4000, l_252645135, l_268435456, l_858993459, l_1431655765, I_add, I_mul, I_sub, I_addN, I_mulN, I_subN, ilt_t, ilt_f, ile_t, ile_f, ieq_t, ieq_f, up_same, up_up, I_and, I_or, I_shlN, I_shrN, I_divN, I_remN, dzI, i2cI, narI, Int.toNat_natCast, true_or, or_true, false_or, or_false, true_and, and_true, false_and, and_false, not_true_eq_false, not_false_eq_true, cBoard, gBoard_was, gBoard_shown, gBoard_spots, nBoard_spots, rBoard_spots, wBoard_spots, gBoard_placesOfSign, nBoard_placesOfSign, rBoard_placesOfSign, wBoard_placesOfSign, gBoard_cutPlaces, nBoard_cutPlaces, rBoard_cutPlaces, wBoard_cutPlaces, gBoard_eachPlaces, nBoard_eachPlaces, rBoard_eachPlaces, wBoard_eachPlaces, gBoard_eachSizes, nBoard_eachSizes, rBoard_eachSizes, wBoard_eachSizes, gBoard_made, cText, gText_signs, nText_signs, rText_signs, wText_signs, gText_placesOf, nText_placesOf, rText_placesOf, wText_placesOf, gText_size, pText_size, b_X1_lookAtCuts_2, hs.1]
end
theorem stands_take {t sh : Tx} {p j : Nat} (h : stands t sh p = true) : stands (t.take j) sh p = true := by
  unfold stands at *
  have h := of_decide_eq_true h
  apply decide_eq_true
  rw [List.length_take]
  refine ⟨by omega, ?_⟩
  have h2 := congrArg (List.take (min j t.length)) h.2
  rw [List.take_take, show min (min j t.length) t.length = min j t.length by omega] at h2
  rw [h2]
  by_cases g : j ≤ t.length
  · rw [show min j t.length = j by omega]
  · rw [show min j t.length = t.length by omega, List.take_of_length_le (Nat.le_refl _), List.take_of_length_le (by omega)]
theorem occ_zero {t sh : Tx} {j : Nat} (h : occ (t.take j) sh = 0) : occ t sh = 0 := by
  apply Nat.eq_of_testBit_eq
  intro p
  rw [Nat.zero_testBit, occ_bit]
  cases hs : stands t sh p
  · rw [Bool.and_false]
  · have h1 := stands_take (j := j) hs
    have h2 : (occ (t.take j) sh).testBit p = (decide (p < 20) && stands (t.take j) sh p) := occ_bit p
    rw [h, Nat.zero_testBit, h1] at h2
    exact h2.symm
theorem mkEach_ne {k p z : Nat} {s t : Tx} (hp : p < 3) (hs : s.length ≤ 20) (h : mkEach k p z s = some t) : t ≠ [] := by
  have hm : pk s k < 2 ^ s.length := msk_lt (fa s) k s.length
  unfold mkEach at h
  split at h
  · cases h
  · next h0 =>
    cases h
    have hc : cntB (enM (pk s k)) 20 ≠ 0 := fun q => h0 ((bg_zero hm hs).mpr q)
    rw [cntB_top (enM_lt hm) hs] at hc
    obtain ⟨b, e, b1, e1, b2, e2, hbe, hel, hall, hnb, hne⟩ := run_ex hm hs (r := 0) (by omega)
    have hgp := gap (m := pk s k) (i := 0) (b := b) (Or.inl rfl) (Nat.zero_le _) (by rw [b2]; rfl)
    have e0 := eachF_skip (s := s) (k := k) (p := p) (z := z) b 0 (by omega) (fun j h1 h2 => hgp j h1 (by omega))
    rw [Nat.zero_add] at e0
    rw [e0, eachF_run hel hbe hp hall hnb hne e1 b1]
    intro q
    have := congrArg List.length q
    simp only [List.length_append, seg_len, List.length_nil] at this
    have h2 : sgF p b e < sgT p b e := by
      unfold sgF sgT
      split <;> split <;> omega
    omega
section
variable {F : Nat}
theorem x_le70 {a q : Nat} {tx : Nat → ZText} {pg : Nat → ZProg} {le : Nat → ZLearnt} {ln : Nat → ZLine} {tk : Nat → ZTask} {bd : Nat → ZBoard} {vi : Nat → Int32} {va : Nat → Nat → Int32} {vl : Nat → Nat → Int64} {vj : Int64} {la : Option Nat} {me : Nat → Option Nat} (hB : isBoard a) (hq : q < 72) {x : Int32} {t : Tx} (ht : txt (tx (aBoard_made a)) t) : f_X1_lookAtEach_70 F a (I (q : Nat)) x (mk (tx, pg, le, ln, tk, bd, vi, va, vl, vj, la, me)) = some (mk (tx, pg, le, ln, tk, (up bd a ((bd a).1, (bd a).2.1, (bd a).2.2.1, upd (bd a).2.2.2.1 q x, upd (bd a).2.2.2.2 q (I (t.length : Nat)))), vi, va, vl, vj, la, me)) := by
  have hM := is_Board_made hB
  simp (disch := first | assumption | omega | exact is_Script_draft | exact is_Script_made | exact is_Learner_made | exact is_Learner_madeFirst | (apply is_eScript_tasks; omega) | (apply is_eScript_lines; omega) | (apply is_eScript_ranBy; omega)) only [↓reduceIte, ↓I_n1, obs, I_0n, l_1, l_2, l_3, l_4, l_5, l_6, l_7, l_8, l_11, l_12, l_15, l_16, l_18, l_20, l_21, l_29, l_30, l_31, l_32, l_33, l_39, l_40, l_44, l_45, l_46, l_47, l_48, l_53, l_57, l_63, l_64, l_65, l_66, l_71, l_72, l_75, l_90, l_97, l_120, l_122, l_127, l_128, l_1812, l_3600, l_4000, l_252645135, l_268435456, l_858993459, l_1431655765, I_add, I_mul, I_sub, I_addN, I_mulN, I_subN, ilt_t, ilt_f, ile_t, ile_f, ieq_t, ieq_f, up_same, up_up, I_and, I_or, I_shlN, I_shrN, I_divN, I_remN, dzI, i2cI, narI, Int.toNat_natCast, true_or, or_true, false_or, or_false, true_and, and_true, false_and, and_false, not_true_eq_false, not_false_eq_true, cBoard, gBoard_was, gBoard_shown, gBoard_spots, nBoard_spots, rBoard_spots, wBoard_spots, gBoard_placesOfSign, nBoard_placesOfSign, rBoard_placesOfSign, wBoard_placesOfSign, gBoard_cutPlaces, nBoard_cutPlaces, rBoard_cutPlaces, wBoard_cutPlaces, gBoard_eachPlaces, nBoard_eachPlaces, rBoard_eachPlaces, wBoard_eachPlaces, gBoard_eachSizes, nBoard_eachSizes, rBoard_eachSizes, wBoard_eachSizes, gBoard_made, cText, gText_signs, nText_signs, rText_signs, wText_signs, gText_placesOf, nText_placesOf, rText_placesOf, wText_placesOf, gText_size, pText_size, f_X1_lookAtEach_70, b_X1_lookAtEach_70, ht.1]
theorem x_le34 {a q : Nat} {tx : Nat → ZText} {pg : Nat → ZProg} {le : Nat → ZLearnt} {ln : Nat → ZLine} {tk : Nat → ZTask} {bd : Nat → ZBoard} {vi : Nat → Int32} {va : Nat → Nat → Int32} {vl : Nat → Nat → Int64} {vj : Int64} {la : Option Nat} {me : Nat → Option Nat} (hB : isBoard a) (hq : q < 72) {t sh : Tx} (hsh : sh.length ≤ 20) (hne : t ≠ []) (ht : txt (tx (aBoard_made a)) t) (hpos : ∀ c : Nat, c < 128 → (bd a).2.1 c = I (psn c sh : Nat)) : ∀ (n j : Nat), j ≤ t.length → t.length + 1 - j ≤ n → f_X1_lookAtEach_34 F n a (I (q : Nat)) (plx t sh j) (I (j : Nat)) (mk (tx, pg, le, ln, tk, bd, vi, va, vl, vj, la, me)) = f_X1_lookAtEach_70 F a (I (q : Nat)) (I (occ t sh : Nat)) (mk (tx, pg, le, ln, tk, bd, vi, va, vl, vj, la, me)) := by
  have hM := is_Board_made hB
  have tl := ht.2.1
  have hp := List.length_pos_iff.mpr hne
  intro n
  induction n with
  | zero => intros; omega
  | succ n ih =>
    intro j hj hn
    rw [s_X1_lookAtEach_34]
    by_cases g : j < t.length
    · have hok := okT_fa ht.2.2.2.1 g
      have hat : f_X10_at F (aBoard_made a) (I (j : Nat)) (mk (tx, pg, le, ln, tk, bd, vi, va, vl, vj, la, me)) = some (I (fa t j), mk (tx, pg, le, ln, tk, bd, vi, va, vl, vj, la, me)) := by
        rw [x_at hM ht (by omega) (by omega), if_pos (by omega)]
        rfl
      have hnr := x_narrowed (F := F) (tx := tx) (pg := pg) (le := le) (ln := ln) (tk := tk) (bd := bd) (vi := vi) (va := va) (vl := vl) (vj := vj) (la := la) (me := me) hB hsh hpos (P := plx t sh j) hok (show j < 20 by omega)
      rw [plx_step g (by omega) hsh] at hnr
      have := ih (j + 1) (by omega) (by omega)
      by_cases hz : plx t sh j = 0
      · have h0 : occ t sh = 0 := by
          unfold plx at hz
          split at hz
          · exact absurd hz (by decide)
          · have hl := occ_lt (t.take j) sh
            have := (I_eq (a := (occ (t.take j) sh : Nat)) (b := 0) (by omega) (by omega) (by decide) (by decide)).mp hz
            exact occ_zero (j := j) (by omega)
        rw [h0]
        rw [hz]
        simp (disch := first | assumption | omega | exact is_Script_draft | exact is_Script_made | exact is_Learner_made | exact is_Learner_madeFirst | (apply is_eScript_tasks; omega) | (apply is_eScript_lines; omega) | (apply is_eScript_ranBy; omega)) only [↓reduceIte, ↓I_n1, obs, I_0n, l_1, l_2, l_3, l_4, l_5, l_6, l_7, l_8, l_11, l_12, l_15, l_16, l_18, l_20, l_21, l_29, l_30, l_31, l_32, l_33, l_39, l_40, l_44, l_45, l_46, l_47, l_48, l_53, l_57, l_63, l_64, l_65, l_66, l_71, l_72, l_75, l_90, l_97, l_120, l_122, l_127, l_128, l_1812, l_3600, l_4000, l_252645135, l_268435456, l_858993459, l_1431655765, I_add, I_mul, I_sub, I_addN, I_mulN, I_subN, ilt_t, ilt_f, ile_t, ile_f, ieq_t, ieq_f, up_same, up_up, I_and, I_or, I_shlN, I_shrN, I_divN, I_remN, dzI, i2cI, narI, Int.toNat_natCast, true_or, or_true, false_or, or_false, true_and, and_true, false_and, and_false, not_true_eq_false, not_false_eq_true, cBoard, gBoard_was, gBoard_shown, gBoard_spots, nBoard_spots, rBoard_spots, wBoard_spots, gBoard_placesOfSign, nBoard_placesOfSign, rBoard_placesOfSign, wBoard_placesOfSign, gBoard_cutPlaces, nBoard_cutPlaces, rBoard_cutPlaces, wBoard_cutPlaces, gBoard_eachPlaces, nBoard_eachPlaces, rBoard_eachPlaces, wBoard_eachPlaces, gBoard_eachSizes, nBoard_eachSizes, rBoard_eachSizes, wBoard_eachSizes, gBoard_made, cText, gText_signs, nText_signs, rText_signs, wText_signs, gText_placesOf, nText_placesOf, rText_placesOf, wText_placesOf, gText_size, pText_size, b_X1_lookAtEach_34, ht.1]
      · have hz2 : (plx t sh j = I ((0 : Nat) : Int)) = False := eq_false hz
        simp (disch := first | assumption | omega | exact is_Script_draft | exact is_Script_made | exact is_Learner_made | exact is_Learner_madeFirst | (apply is_eScript_tasks; omega) | (apply is_eScript_lines; omega) | (apply is_eScript_ranBy; omega)) only [↓reduceIte, ↓I_n1, obs, I_0n, l_1, l_2, l_3, l_4, l_5, l_6, l_7, l_8, l_11, l_12, l_15, l_16, l_18, l_20, l_21, l_29, l_30, l_31, l_32, l_33, l_39, l_40, l_44, l_45, l_46, l_47, l_48, l_53, l_57, l_63, l_64, l_65, l_66, l_71, l_72, l_75, l_90, l_97, l_120, l_122, l_127, l_128, l_1812, l_3600, l_4000, l_252645135, l_268435456, l_858993459, l_1431655765, I_add, I_mul, I_sub, I_addN, I_mulN, I_subN, ilt_t, ilt_f, ile_t, ile_f, ieq_t, ieq_f, up_same, up_up, I_and, I_or, I_shlN, I_shrN, I_divN, I_remN, dzI, i2cI, narI, Int.toNat_natCast, true_or, or_true, false_or, or_false, true_and, and_true, false_and, and_false, not_true_eq_false, not_false_eq_true, cBoard, gBoard_was, gBoard_shown, gBoard_spots, nBoard_spots, rBoard_spots, wBoard_spots, gBoard_placesOfSign, nBoard_placesOfSign, rBoard_placesOfSign, wBoard_placesOfSign, gBoard_cutPlaces, nBoard_cutPlaces, rBoard_cutPlaces, wBoard_cutPlaces, gBoard_eachPlaces, nBoard_eachPlaces, rBoard_eachPlaces, wBoard_eachPlaces, gBoard_eachSizes, nBoard_eachSizes, rBoard_eachSizes, wBoard_eachSizes, gBoard_made, cText, gText_signs, nText_signs, rText_signs, wText_signs, gText_placesOf, nText_placesOf, rText_placesOf, wText_placesOf, gText_size, pText_size, b_X1_lookAtEach_34, ht.1, hz2, hat, hnr]
        exact this
    · have hj2 : j = t.length := by omega
      have hv : plx t sh j = I (occ t sh : Nat) := by
        unfold plx
        rw [if_neg (by omega), List.take_of_length_le (by omega)]
      rw [hv]
      simp (disch := first | assumption | omega | exact is_Script_draft | exact is_Script_made | exact is_Learner_made | exact is_Learner_madeFirst | (apply is_eScript_tasks; omega) | (apply is_eScript_lines; omega) | (apply is_eScript_ranBy; omega)) only [↓reduceIte, ↓I_n1, obs, I_0n, l_1, l_2, l_3, l_4, l_5, l_6, l_7, l_8, l_11, l_12, l_15, l_16, l_18, l_20, l_21, l_29, l_30, l_31, l_32, l_33, l_39, l_40, l_44, l_45, l_46, l_47, l_48, l_53, l_57, l_63, l_64, l_65, l_66, l_71, l_72, l_75, l_90, l_97, l_120, l_122, l_127, l_128, l_1812, l_3600, l_4000, l_252645135, l_268435456, l_858993459, l_1431655765, I_add, I_mul, I_sub, I_addN, I_mulN, I_subN, ilt_t, ilt_f, ile_t, ile_f, ieq_t, ieq_f, up_same, up_up, I_and, I_or, I_shlN, I_shrN, I_divN, I_remN, dzI, i2cI, narI, Int.toNat_natCast, true_or, or_true, false_or, or_false, true_and, and_true, false_and, and_false, not_true_eq_false, not_false_eq_true, cBoard, gBoard_was, gBoard_shown, gBoard_spots, nBoard_spots, rBoard_spots, wBoard_spots, gBoard_placesOfSign, nBoard_placesOfSign, rBoard_placesOfSign, wBoard_placesOfSign, gBoard_cutPlaces, nBoard_cutPlaces, rBoard_cutPlaces, wBoard_cutPlaces, gBoard_eachPlaces, nBoard_eachPlaces, rBoard_eachPlaces, wBoard_eachPlaces, gBoard_eachSizes, nBoard_eachSizes, rBoard_eachSizes, wBoard_eachSizes, gBoard_made, cText, gText_signs, nText_signs, rText_signs, wText_signs, gText_placesOf, nText_placesOf, rText_placesOf, wText_placesOf, gText_size, pText_size, b_X1_lookAtEach_34, ht.1]
theorem x_lookAtEach {a q : Nat} {tx : Nat → ZText} {pg : Nat → ZProg} {le : Nat → ZLearnt} {ln : Nat → ZLine} {tk : Nat → ZTask} {bd : Nat → ZBoard} {vi : Nat → Int32} {va : Nat → Nat → Int32} {vl : Nat → Nat → Int64} {vj : Int64} {la : Option Nat} {me : Nat → Option Nat} (hB : isBoard a) (hq : q < 72) {s sh u0 : Tx} (hF : 200000 ≤ F) (hsh : sh.length ≤ 20) (hs : txt (tx (aBoard_was a)) s) (hm : txt (tx (aBoard_made a)) u0) (hpos : ∀ c : Nat, c < 128 → (bd a).2.1 c = I (psn c sh : Nat)) : ∃ v u x y, txt v u ∧ f_X1_lookAtEach F a (I (q : Nat)) (mk (tx, pg, le, ln, tk, bd, vi, va, vl, vj, la, me)) = some (mk ((up tx (aBoard_made a) v), pg, le, ln, tk, (up bd a ((bd a).1, (bd a).2.1, (bd a).2.2.1, upd (bd a).2.2.2.1 q x, upd (bd a).2.2.2.2 q y)), vi, va, vl, vj, la, me)) ∧ match mkA (.inr (3600 + q)) s with
    | none => x = I ((0 : Nat) : Int)
    | some t => x = I (occ t sh : Nat) ∧ y = I (t.length : Nat) := by
  have hM := is_Board_made hB
  have hW := is_Board_was hB
  have hne : aBoard_was a ≠ aBoard_made a := by (first | omega | (simp only [aText_signs, aText_placesOf, aProg_atoms, aLearnt_first, aLearnt_second, aLine_came, aLine_now, aLine_steps, aTask_was, eTask_was, aTask_shown, eTask_shown, aTask_lineOf, aTask_refusedOf, eTask_refusedOf, aTask_refused, eTask_refused, aTask_pins, aTask_learnt, aTask_best, eTask_best, aBoard_was, aBoard_shown, aBoard_spots, aBoard_placesOfSign, aBoard_cutPlaces, aBoard_eachPlaces, aBoard_eachSizes, aBoard_made, aFinder, aFinder_found, eFinder_found, aFinder_pins, aFinder_pinIndexes, aFinder_ways, aFinder_knownKeys, aFinder_knownEndings, aFinder_at_, aFinder_row, aStock, aStock_boards, eStock_boards, aStock_members, aStock_atoms, aStock_weights, aStock_places, aStock_sizes, aStock_shared, aStock_groups, aStock_groupWeights, aStock_newest, aStock_older, aLearner, aLearner_chosen, eLearner_chosen, aLearner_tried, aLearner_made, aLearner_madeFirst, aScript, aScript_draft, aScript_made, aScript_tasks, eScript_tasks, aScript_lines, eScript_lines, aScript_ranBy, eScript_ranBy, aScript_runCounts] at *; omega))
  have hn : 3600 + q < 3672 := by omega
  obtain ⟨v0, hv0, e0⟩ := x_clear (F := F) (tx := tx) (pg := pg) (le := le) (ln := ln) (tk := tk) (bd := bd) (vi := vi) (va := va) (vl := vl) (vj := vj) (la := la) (me := me) hM (by omega)
  obtain ⟨v, u, r, hv, e, hr⟩ := x_mkEach (F := F) (tx := up tx (aBoard_made a) v0) (pg := pg) (le := le) (ln := ln) (tk := tk) (bd := bd) (vi := vi) (va := va) (vl := vl) (vj := vj) (la := la) (me := me) hW hM hne hn (by omega) (s := s) (acc := []) (by rw [up_ne hne]; exact hs) (by rw [up_same]; exact hv0) hF
  rw [up_up] at e
  have hA : mkA (.inr (3600 + q)) s = mkEach (pp (3600 + q) 1) (pp (3600 + q) 2) (pp (3600 + q) 3) s := by
    show (if 3600 + q < 3600 then _ else _) = _
    rw [if_neg (by omega)]
  rw [hA]
  cases hm2 : mkEach (pp (3600 + q) 1) (pp (3600 + q) 2) (pp (3600 + q) 3) s with
  | none =>
    rw [hm2] at hr
    have hr0 : r = 0 := by
      rcases hr with ⟨h1, h2⟩ | ⟨h1, h2⟩
      · cases h1
      · exact h2
    subst hr0
    refine ⟨v, u, I ((0 : Nat) : Int), I (u.length : Nat), hv, ?_, rfl⟩
    have e70 := x_le70 (F := F) (tx := up tx (aBoard_made a) v) (pg := pg) (le := le) (ln := ln) (tk := tk) (bd := bd) (vi := vi) (va := va) (vl := vl) (vj := vj) (la := la) (me := me) hB hq (x := I ((0 : Nat) : Int)) (t := u) (by rw [up_same]; exact hv)
    obtain ⟨F', rfl⟩ : ∃ F', F = F' + 1 := ⟨F - 1, by omega⟩
    have e34 : f_X1_lookAtEach_34 (F' + 1) (F' + 1) a (I (q : Nat)) (I ((0 : Nat) : Int)) (I ((0 : Nat) : Int)) (mk ((up tx (aBoard_made a) v), pg, le, ln, tk, bd, vi, va, vl, vj, la, me)) = f_X1_lookAtEach_70 (F' + 1) a (I (q : Nat)) (I ((0 : Nat) : Int)) (mk ((up tx (aBoard_made a) v), pg, le, ln, tk, bd, vi, va, vl, vj, la, me)) := by
      rw [s_X1_lookAtEach_34]
      have hz : (up tx (aBoard_made a) v (aBoard_made a)).2.2 = I (u.length : Nat) := by rw [up_same]; exact hv.1
      by_cases g : u.length = 0
      · simp (disch := first | assumption | omega | exact is_Script_draft | exact is_Script_made | exact is_Learner_made | exact is_Learner_madeFirst | (apply is_eScript_tasks; omega) | (apply is_eScript_lines; omega) | (apply is_eScript_ranBy; omega)) only [↓reduceIte, ↓I_n1, obs, I_0n, l_1, l_2, l_3, l_4, l_5, l_6, l_7, l_8, l_11, l_12, l_15, l_16, l_18, l_20, l_21, l_29, l_30, l_31, l_32, l_33, l_39, l_40, l_44, l_45, l_46, l_47, l_48, l_53, l_57, l_63, l_64, l_65, l_66, l_71, l_72, l_75, l_90, l_97, l_120, l_122, l_127, l_128, l_1812, l_3600, l_4000, l_252645135, l_268435456, l_858993459, l_1431655765, I_add, I_mul, I_sub, I_addN, I_mulN, I_subN, ilt_t, ilt_f, ile_t, ile_f, ieq_t, ieq_f, up_same, up_up, I_and, I_or, I_shlN, I_shrN, I_divN, I_remN, dzI, i2cI, narI, Int.toNat_natCast, true_or, or_true, false_or, or_false, true_and, and_true, false_and, and_false, not_true_eq_false, not_false_eq_true, cBoard, gBoard_was, gBoard_shown, gBoard_spots, nBoard_spots, rBoard_spots, wBoard_spots, gBoard_placesOfSign, nBoard_placesOfSign, rBoard_placesOfSign, wBoard_placesOfSign, gBoard_cutPlaces, nBoard_cutPlaces, rBoard_cutPlaces, wBoard_cutPlaces, gBoard_eachPlaces, nBoard_eachPlaces, rBoard_eachPlaces, wBoard_eachPlaces, gBoard_eachSizes, nBoard_eachSizes, rBoard_eachSizes, wBoard_eachSizes, gBoard_made, cText, gText_signs, nText_signs, rText_signs, wText_signs, gText_placesOf, nText_placesOf, rText_placesOf, wText_placesOf, gText_size, pText_size, b_X1_lookAtEach_34, hz, hv.1]
      · have hul := hv.2.1
        simp (disch := first | assumption | omega | exact is_Script_draft | exact is_Script_made | exact is_Learner_made | exact is_Learner_madeFirst | (apply is_eScript_tasks; omega) | (apply is_eScript_lines; omega) | (apply is_eScript_ranBy; omega)) only [↓reduceIte, ↓I_n1, obs, I_0n, l_1, l_2, l_3, l_4, l_5, l_6, l_7, l_8, l_11, l_12, l_15, l_16, l_18, l_20, l_21, l_29, l_30, l_31, l_32, l_33, l_39, l_40, l_44, l_45, l_46, l_47, l_48, l_53, l_57, l_63, l_64, l_65, l_66, l_71, l_72, l_75, l_90, l_97, l_120, l_122, l_127, l_128, l_1812, l_3600, l_4000, l_252645135, l_268435456, l_858993459, l_1431655765, I_add, I_mul, I_sub, I_addN, I_mulN, I_subN, ilt_t, ilt_f, ile_t, ile_f, ieq_t, ieq_f, up_same, up_up, I_and, I_or, I_shlN, I_shrN, I_divN, I_remN, dzI, i2cI, narI, Int.toNat_natCast, true_or, or_true, false_or, or_false, true_and, and_true, false_and, and_false, not_true_eq_false, not_false_eq_true, cBoard, gBoard_was, gBoard_shown, gBoard_spots, nBoard_spots, rBoard_spots, wBoard_spots, gBoard_placesOfSign, nBoard_placesOfSign, rBoard_placesOfSign, wBoard_placesOfSign, gBoard_cutPlaces, nBoard_cutPlaces, rBoard_cutPlaces, wBoard_cutPlaces, gBoard_eachPlaces, nBoard_eachPlaces, rBoard_eachPlaces, wBoard_eachPlaces, gBoard_eachSizes, nBoard_eachSizes, rBoard_eachSizes, wBoard_eachSizes, gBoard_made, cText, gText_signs, nText_signs, rText_signs, wText_signs, gText_placesOf, nText_placesOf, rText_placesOf, wText_placesOf, gText_size, pText_size, b_X1_lookAtEach_34, hz, hv.1]
    simp (disch := first | assumption | omega | exact is_Script_draft | exact is_Script_made | exact is_Learner_made | exact is_Learner_madeFirst | (apply is_eScript_tasks; omega) | (apply is_eScript_lines; omega) | (apply is_eScript_ranBy; omega)) only [↓reduceIte, ↓I_n1, obs, I_0n, l_1, l_2, l_3, l_4, l_5, l_6, l_7, l_8, l_11, l_12, l_15, l_16, l_18, l_20, l_21, l_29, l_30, l_31, l_32, l_33, l_39, l_40, l_44, l_45, l_46, l_47, l_48, l_53, l_57, l_63, l_64, l_65, l_66, l_71, l_72, l_75, l_90, l_97, l_120, l_122, l_127, l_128, l_1812, l_3600, l_4000, l_252645135, l_268435456, l_858993459, l_1431655765, I_add, I_mul, I_sub, I_addN, I_mulN, I_subN, ilt_t, ilt_f, ile_t, ile_f, ieq_t, ieq_f, up_same, up_up, I_and, I_or, I_shlN, I_shrN, I_divN, I_remN, dzI, i2cI, narI, Int.toNat_natCast, true_or, or_true, false_or, or_false, true_and, and_true, false_and, and_false, not_true_eq_false, not_false_eq_true, cBoard, gBoard_was, gBoard_shown, gBoard_spots, nBoard_spots, rBoard_spots, wBoard_spots, gBoard_placesOfSign, nBoard_placesOfSign, rBoard_placesOfSign, wBoard_placesOfSign, gBoard_cutPlaces, nBoard_cutPlaces, rBoard_cutPlaces, wBoard_cutPlaces, gBoard_eachPlaces, nBoard_eachPlaces, rBoard_eachPlaces, wBoard_eachPlaces, gBoard_eachSizes, nBoard_eachSizes, rBoard_eachSizes, wBoard_eachSizes, gBoard_made, b_X1_lookAtEach_70, f_X1_lookAtEach_70, b_X1_lookAtEach_34, b_X1_lookAtEach_0, f_X1_lookAtEach_0, f_X1_lookAtEach, e0, e]
    exact e34.trans e70
  | some t =>
    rw [hm2] at hr
    have hp := (pp_bd hn).2 (by omega)
    have hne2 := mkEach_ne hp.2.1 hs.2.1 hm2
    have htl : t.length ≤ 20 := by
      have := mkA_len (a := .inr (3600 + q)) (show 3600 + q < 3672 from hn) hs.2.1 (t := t) (by rw [hA]; exact hm2)
      exact this
    have hadd : addP [] (some t) = some t := by
      unfold addP
      rw [Option.bind_some, if_pos (by simpa using htl)]
      rfl
    rw [hadd] at hr
    have hr1 : u = t ∧ r = 1 := by
      rcases hr with ⟨h1, h2⟩ | ⟨h1, h2⟩
      · cases h1
        exact ⟨rfl, h2⟩
      · cases h1
    obtain ⟨rfl, rfl⟩ := hr1
    refine ⟨v, u, I (occ u sh : Nat), I (u.length : Nat), hv, ?_, rfl, rfl⟩
    have e70 := x_le70 (F := F) (tx := up tx (aBoard_made a) v) (pg := pg) (le := le) (ln := ln) (tk := tk) (bd := bd) (vi := vi) (va := va) (vl := vl) (vj := vj) (la := la) (me := me) hB hq (x := I (occ u sh : Nat)) (t := u) (by rw [up_same]; exact hv)
    have e34 := x_le34 (F := F) (tx := up tx (aBoard_made a) v) (pg := pg) (le := le) (ln := ln) (tk := tk) (bd := bd) (vi := vi) (va := va) (vl := vl) (vj := vj) (la := la) (me := me) hB hq hsh hne2 (by rw [up_same]; exact hv) hpos F 0 (Nat.zero_le _) (by omega)
    have hp0 : plx u sh 0 = I (-1) := rfl
    rw [hp0] at e34
    simp (disch := first | assumption | omega | exact is_Script_draft | exact is_Script_made | exact is_Learner_made | exact is_Learner_madeFirst | (apply is_eScript_tasks; omega) | (apply is_eScript_lines; omega) | (apply is_eScript_ranBy; omega)) only [↓reduceIte, ↓I_n1, obs, I_0n, l_1, l_2, l_3, l_4, l_5, l_6, l_7, l_8, l_11, l_12, l_15, l_16, l_18, l_20, l_21, l_29, l_30, l_31, l_32, l_33, l_39, l_40, l_44, l_45, l_46, l_47, l_48, l_53, l_57, l_63, l_64, l_65, l_66, l_71, l_72, l_75, l_90, l_97, l_120, l_122, l_127, l_128, l_1812, l_3600, l_4000, l_252645135, l_268435456, l_858993459, l_1431655765, I_add, I_mul, I_sub, I_addN, I_mulN, I_subN, ilt_t, ilt_f, ile_t, ile_f, ieq_t, ieq_f, up_same, up_up, I_and, I_or, I_shlN, I_shrN, I_divN, I_remN, dzI, i2cI, narI, Int.toNat_natCast, true_or, or_true, false_or, or_false, true_and, and_true, false_and, and_false, not_true_eq_false, not_false_eq_true, cBoard, gBoard_was, gBoard_shown, gBoard_spots, nBoard_spots, rBoard_spots, wBoard_spots, gBoard_placesOfSign, nBoard_placesOfSign, rBoard_placesOfSign, wBoard_placesOfSign, gBoard_cutPlaces, nBoard_cutPlaces, rBoard_cutPlaces, wBoard_cutPlaces, gBoard_eachPlaces, nBoard_eachPlaces, rBoard_eachPlaces, wBoard_eachPlaces, gBoard_eachSizes, nBoard_eachSizes, rBoard_eachSizes, wBoard_eachSizes, gBoard_made, b_X1_lookAtEach_70, f_X1_lookAtEach_70, b_X1_lookAtEach_34, b_X1_lookAtEach_0, f_X1_lookAtEach_0, f_X1_lookAtEach, e0, e]
    exact e34.trans e70
end
