/-! THE WAYS OF EACH EXAMPLE ALONE: ONE ATOM'S -/
theorem low_ex {m : Nat} (h : m ≠ 0) : ∃ z, m.testBit z = true ∧ ∀ j, j < z → m.testBit j = false := by
  have hex : ∃ i, m.testBit i = true := by
    apply Classical.byContradiction
    intro q
    apply h
    apply Nat.eq_of_testBit_eq
    intro i
    rw [Nat.zero_testBit]
    cases c : m.testBit i
    · rfl
    · exact absurd ⟨i, c⟩ q
  obtain ⟨i, hi⟩ := hex
  have : ∀ n, ∀ i, i ≤ n → m.testBit i = true → ∃ z, m.testBit z = true ∧ ∀ j, j < z → m.testBit j = false := by
    intro n
    induction n with
    | zero =>
      intro i hi hb
      have : i = 0 := by omega
      subst this
      exact ⟨0, hb, fun j hj => absurd hj (Nat.not_lt_zero _)⟩
    | succ n ih =>
      intro i hi hb
      by_cases c : ∃ j, j < i ∧ m.testBit j = true
      · obtain ⟨j, hj, hjb⟩ := c
        exact ih j (by omega) hjb
      · refine ⟨i, hb, fun j hj => ?_⟩
        cases d : m.testBit j
        · rfl
        · exact absurd ⟨j, hj, d⟩ c
  exact this i i (Nat.le_refl _) hi
theorem I_lowest {m z : Nat} (hm : m < 1048576) (hz : m.testBit z = true) (hl : ∀ j, j < z → m.testBit j = false) : I (m : Int) &&& -(I (m : Int)) = I ((2 ^ z : Nat) : Int) := by
  have hz20 : z < 20 := bit_lt (n := 20) hm hz
  apply Int32.toBitVec_inj.mp
  rw [Int32.toBitVec_and, Int32.toBitVec_neg, I_ofNat, I_ofNat]
  apply BitVec.eq_of_getLsbD_eq
  intro i hi
  rw [BitVec.getLsbD_and, BitVec.getLsbD_neg, BitVec.getLsbD_ofNat, BitVec.getLsbD_ofNat, Nat.testBit_two_pow, decide_eq_true hi, Bool.true_and, Bool.true_and, Bool.true_and]
  have hh : (∃ j, j < i ∧ (BitVec.ofNat 32 m).getLsbD j = true) ↔ z < i := by
    constructor
    · rintro ⟨j, h1, h2⟩
      rw [BitVec.getLsbD_ofNat, decide_eq_true (by omega), Bool.true_and] at h2
      apply Nat.lt_of_not_le
      intro c
      rw [hl j (by omega)] at h2
      cases h2
    · intro c
      exact ⟨z, c, by rw [BitVec.getLsbD_ofNat, decide_eq_true (by omega), Bool.true_and]; exact hz⟩
  by_cases c : z = i
  · subst c
    rw [hz, decide_eq_false (fun q => absurd (hh.mp q) (Nat.lt_irrefl _)), decide_eq_true rfl]
    rfl
  · rw [decide_eq_false c]
    by_cases d : z < i
    · rw [decide_eq_true (hh.mpr d)]
      cases m.testBit i <;> rfl
    · rw [hl i (by omega)]
      rfl
theorem cnt_le (m : Nat) : ∀ d, cntB m d ≤ d := by
  intro d
  induction d with
  | zero => exact Nat.le_refl _
  | succ d ih =>
    rw [cntB_succ]
    have := Bool.toNat_le (m.testBit d)
    omega
theorem cnt_ones {z : Nat} : ∀ d, cntB (2 ^ z - 1) d = min z d := by
  intro d
  induction d with
  | zero => rw [Nat.min_zero]; rfl
  | succ d ih =>
    rw [cntB_succ, ih, Nat.testBit_two_pow_sub_one]
    by_cases c : d < z
    · rw [decide_eq_true c, Nat.min_eq_right (by omega), Nat.min_eq_right (by omega)]
      rfl
    · rw [decide_eq_false c, Nat.min_eq_left (by omega), Nat.min_eq_left (by omega)]
      rfl
theorem low_rest' : ∀ (z m : Nat), m.testBit z = true → ∀ i, (m - 2 ^ z).testBit i = (m.testBit i && decide (i ≠ z)) := by
  intro z
  induction z with
  | zero =>
    intro m hz i
    rw [Nat.testBit_zero] at hz
    have hm := of_decide_eq_true hz
    cases i with
    | zero =>
      rw [Nat.testBit_zero, Nat.testBit_zero, decide_eq_false (show ¬ (m - 2 ^ 0) % 2 = 1 by omega), decide_eq_false (show ¬ (0 : Nat) ≠ 0 from fun q => q rfl), Bool.and_false]
    | succ i =>
      rw [Nat.testBit_succ, Nat.testBit_succ, decide_eq_true (show i + 1 ≠ 0 by omega), Bool.and_true, show (m - 2 ^ 0) / 2 = m / 2 by omega]
  | succ z ih =>
    intro m hz i
    rw [Nat.testBit_succ] at hz
    have hle := Nat.ge_two_pow_of_testBit hz
    have hp : 2 ^ (z + 1) = 2 * 2 ^ z := by rw [Nat.pow_succ, Nat.mul_comm]
    cases i with
    | zero =>
      rw [Nat.testBit_zero, Nat.testBit_zero, decide_eq_true (show (0 : Nat) ≠ z + 1 by omega), Bool.and_true, show (m - 2 ^ (z + 1)) % 2 = m % 2 by omega]
    | succ i =>
      rw [Nat.testBit_succ, Nat.testBit_succ, show (m - 2 ^ (z + 1)) / 2 = m / 2 - 2 ^ z by omega, ih _ hz i]
      by_cases c : i = z
      · subst c
        rw [decide_eq_false (fun q => q rfl), decide_eq_false (fun q => q rfl)]
      · rw [decide_eq_true (show i ≠ z from c), decide_eq_true (show i + 1 ≠ z + 1 by omega)]
theorem low_rest {m z : Nat} (hz : m.testBit z = true) (i : Nat) : (m - 2 ^ z).testBit i = (m.testBit i && decide (i ≠ z)) := low_rest' z m hz i
theorem cnt_rest {m z : Nat} (hz : m.testBit z = true) : ∀ d, cntB m d = cntB (m - 2 ^ z) d + (if z < d then 1 else 0) := by
  intro d
  induction d with
  | zero => rw [if_neg (Nat.not_lt_zero _)]; rfl
  | succ d ih =>
    rw [cntB_succ, cntB_succ, ih, low_rest hz]
    by_cases c : d = z
    · subst c
      rw [if_neg (Nat.lt_irrefl _), if_pos (Nat.lt_succ_self _), hz, decide_eq_false (fun q => q rfl)]
      rfl
    · rw [decide_eq_true (show d ≠ z from c), Bool.and_true]
      by_cases e : z < d
      · rw [if_pos e, if_pos (by omega)]
        omega
      · rw [if_neg e, if_neg (by omega)]
        omega
/-- only this row of the ways may be another -/
def frW (vl vl' : Nat → Nat → Int64) (R : Nat) : Prop := (∀ K, K ≠ 515 → vl' K = vl K) ∧ ∀ x, ¬ (R * 21 ≤ x ∧ x < R * 21 + 21) → vl' 515 x = vl 515 x
theorem frW_refl {vl : Nat → Nat → Int64} {R : Nat} : frW vl vl R := ⟨fun _ _ => rfl, fun _ _ => rfl⟩
theorem frW_trans {vl vl' vl'' : Nat → Nat → Int64} {R : Nat} (h : frW vl vl' R) (h' : frW vl' vl'' R) : frW vl vl'' R := ⟨fun K a => (h'.1 K a).trans (h.1 K a), fun x a => (h'.2 x a).trans (h.2 x a)⟩
def monW (vl vl' : Nat → Nat → Int64) : Prop := ∀ x b, b < 64 → bj (vl 515 x) b = true → bj (vl' 515 x) b = true
theorem monW_refl {vl : Nat → Nat → Int64} : monW vl vl := fun _ _ _ h => h
theorem monW_trans {vl vl' vl'' : Nat → Nat → Int64} (h : monW vl vl') (h' : monW vl' vl'') : monW vl vl'' := fun x b c d => h' x b c (h x b c d)
theorem upL_at {f : Nat → Int64} {i j : Nat} {v : Int64} : vp_updL f i v j = if j = i then v else f j := rfl
theorem frW_put {vl : Nat → Nat → Int64} {R p : Nat} {v : Int64} (hp : p < 21) : frW vl (up vl 515 (vp_updL (vl 515) (R * 21 + p) v)) R := ⟨fun K a => up_ne a, fun x hx => by
  rw [up_same, upL_at, if_neg (by omega)]⟩
theorem monW_put {vl : Nat → Nat → Int64} {x : Nat} {v : Int64} : monW vl (up vl 515 (vp_updL (vl 515) x (vl 515 x ||| v))) := fun y b hb h => by
  rw [up_same, upL_at]
  split
  · next c =>
    subst c
    rw [bj_or, h]
    rfl
  · exact h
section
variable {F : Nat}
theorem x_gaw29 {n : Nat} {m : Tx × Tx} {w R T : Nat} (hF : 200000 ≤ F) (hn : n < 3672) (hm1 : m.1.length ≤ 20) (hm2 : m.2.length ≤ 20) (hw : w < 8192) (hR : R < 44) (hT : T < 44) (hne : R ≠ T) : ∀ (c x : Nat) (tx : Nat → ZText) (pg : Nat → ZProg) (le : Nat → ZLearnt) (ln : Nat → ZLine) (tk : Nat → ZTask) (bd : Nat → ZBoard) (vi : Nat → Int32) (va : Nat → Nat → Int32) (vl : Nat → Nat → Int64) (vj : Int64) (la : Option Nat) (me : Nat → Option Nat), cntB x 20 = c → x < 1048576 → (∀ p, x.testBit p = true → (ocp n m).testBit p = true) → ∀ f, c < f → ∃ vl', f_X2_gatherAtomWays_29 F f aFinder (I (w : Nat)) (I ((R * 21 : Nat) : Int)) (I ((T * 21 : Nat) : Int)) (I (x : Nat)) (I (sz n m : Nat)) (I (c : Nat)) (mk (tx, pg, le, ln, tk, bd, vi, va, vl, vj, la, me)) = some (mk (tx, pg, le, ln, tk, bd, vi, va, (vl'), vj, la, me)) ∧ frW vl vl' R ∧ monW vl vl' ∧ ∀ p, x.testBit p = true → ∀ k b, k ≤ 12 → w.testBit k = true → bj (vl 515 (T * 21 + p + sz n m)) b = true → b + k < 64 → bj (vl' 515 (R * 21 + p)) (b + k) = true := by
  intro c
  induction c with
  | zero =>
    intro x tx pg le ln tk bd vi va vl vj la me hc hx hsub f hf
    obtain ⟨f, rfl⟩ : ∃ g, f = g + 1 := ⟨f - 1, by omega⟩
    refine ⟨vl, ?_, frW_refl, monW_refl, fun p hp => ?_⟩
    · rw [s_X2_gatherAtomWays_29]
      simp (disch := first | assumption | omega | exact is_Script_draft | exact is_Script_made | exact is_Learner_made | exact is_Learner_madeFirst | (apply is_eScript_tasks; omega) | (apply is_eScript_lines; omega) | (apply is_eScript_ranBy; omega)) only [↓reduceIte, ↓I_n1, obs, I_0n, l_1, l_2, l_3, l_4, l_5, l_6, l_7, l_8, l_11, l_12, l_15, l_16, l_18, l_20, l_21, l_29, l_30, l_31, l_32, l_33, l_39, l_40, l_44, l_45, l_46, l_47, l_48, l_53, l_57, l_63, l_64, l_65, l_66, l_71, l_72, l_75, l_90, l_97, l_120, l_122, l_127, l_128, l_1812, l_3600, l_4000, l_252645135, l_268435456, l_858993459, l_1431655765, I_add, I_mul, I_sub, I_addN, I_mulN, I_subN, ilt_t, ilt_f, ile_t, ile_f, ieq_t, ieq_f, up_same, up_up, I_and, I_or, I_shlN, I_shrN, I_divN, I_remN, dzI, i2cI, narI, Int.toNat_natCast, true_or, or_true, false_or, or_false, true_and, and_true, false_and, and_false, not_true_eq_false, not_false_eq_true, cFinder, gFinder_found, nFinder_found, rFinder_found, gFinder_foundCount, pFinder_foundCount, gFinder_stock, gFinder_lookedAt, pFinder_lookedAt, gFinder_boardCount, pFinder_boardCount, gFinder_pins, nFinder_pins, rFinder_pins, wFinder_pins, gFinder_pinIndexes, nFinder_pinIndexes, rFinder_pinIndexes, wFinder_pinIndexes, gFinder_isPinned, pFinder_isPinned, gFinder_ways, nFinder_ways, rFinder_ways, wFinder_ways, gFinder_knownKeys, nFinder_knownKeys, rFinder_knownKeys, wFinder_knownKeys, gFinder_knownEndings, nFinder_knownEndings, rFinder_knownEndings, wFinder_knownEndings, gFinder_searches, pFinder_searches, gFinder_at_, nFinder_at_, rFinder_at_, wFinder_at_, gFinder_row, nFinder_row, rFinder_row, wFinder_row, b_X2_gatherAtomWays_29]
    · have hp20 : p < 20 := bit_lt (n := 20) hx hp
      have := cntB_lt hp20 hp
      omega
  | succ c ih =>
    intro x tx pg le ln tk bd vi va vl vj la me hc hx hsub f hf
    obtain ⟨f, rfl⟩ : ∃ g, f = g + 1 := ⟨f - 1, by omega⟩
    have hx0 : x ≠ 0 := by
      intro q
      subst q
      have : cntB 0 20 = 0 := by decide
      omega
    obtain ⟨z, hz, hzl⟩ := low_ex hx0
    have hz20 : z < 20 := bit_lt (n := 20) hx hz
    have hlow := I_lowest hx hz hzl
    have hp2 : 2 ^ z < 2 ^ 20 := Nat.pow_lt_pow_right (by decide) hz20
    have hp1 : 1 ≤ 2 ^ z := Nat.one_le_two_pow
    have hle : 2 ^ z ≤ x := Nat.ge_two_pow_of_testBit hz
    have hbc : (bl (2 ^ z - 1) 0).length = z := by
      rw [bl_cnt, cnt_ones]
      omega
    have hcb := x_bitCount (F := F) (M := mk (tx, pg, le, ln, tk, bd, vi, va, vl, vj, la, me)) (m := 2 ^ z - 1) (by omega)
    rw [hbc] at hcb
    have hst : z + sz n m ≤ 20 := by
      have h := hsub z hz
      have h1 := stpA_oc (p := z) hn hm1 hm2
      rw [h, if_pos rfl] at h1
      have := stpA_lt h1
      omega
    obtain ⟨r', hh, hhb⟩ := x_heavier (F := F) (M := mk (tx, pg, le, ln, tk, bd, vi, va, vl, vj, la, me)) (e := vl 515 (T * 21 + z + sz n m)) hF hw
    obtain ⟨vl1, hvl1⟩ : ∃ vl1, vl1 = up vl 515 (vp_updL (vl 515) (R * 21 + z) (vl 515 (R * 21 + z) ||| r')) := ⟨_, rfl⟩
    have f1 : frW vl vl1 R := by rw [hvl1]; exact frW_put (by omega)
    have m1 : monW vl vl1 := by rw [hvl1]; exact monW_put
    have hcr := cnt_rest hz 20
    have hcl := cnt_le x 20
    have hcc : ((c + 1 : Nat) : Int) + -1 = (c : Nat) := by omega
    rw [if_pos hz20] at hcr
    obtain ⟨vl', e', f', m', hall⟩ := ih (x - 2 ^ z) tx pg le ln tk bd vi va (vl1) vj la me (by omega) (by omega) (fun p hp => by
      rw [low_rest hz] at hp
      exact hsub p (by cases h : x.testBit p <;> rw [h] at hp <;> first | rfl | cases hp)) f (by omega)
    refine ⟨vl', ?_, frW_trans f1 f', monW_trans m1 m', ?_⟩
    · rw [s_X2_gatherAtomWays_29]
      simp (disch := first | assumption | omega | exact is_Script_draft | exact is_Script_made | exact is_Learner_made | exact is_Learner_madeFirst | (apply is_eScript_tasks; omega) | (apply is_eScript_lines; omega) | (apply is_eScript_ranBy; omega)) only [↓reduceIte, ↓I_n1, obs, I_0n, l_1, l_2, l_3, l_4, l_5, l_6, l_7, l_8, l_11, l_12, l_15, l_16, l_18, l_20, l_21, l_29, l_30, l_31, l_32, l_33, l_39, l_40, l_44, l_45, l_46, l_47, l_48, l_53, l_57, l_63, l_64, l_65, l_66, l_71, l_72, l_75, l_90, l_97, l_120, l_122, l_127, l_128, l_1812, l_3600, l_4000, l_252645135, l_268435456, l_858993459, l_1431655765, I_add, I_mul, I_sub, I_addN, I_mulN, I_subN, ilt_t, ilt_f, ile_t, ile_f, ieq_t, ieq_f, up_same, up_up, I_and, I_or, I_shlN, I_shrN, I_divN, I_remN, dzI, i2cI, narI, Int.toNat_natCast, true_or, or_true, false_or, or_false, true_and, and_true, false_and, and_false, not_true_eq_false, not_false_eq_true, cFinder, gFinder_found, nFinder_found, rFinder_found, gFinder_foundCount, pFinder_foundCount, gFinder_stock, gFinder_lookedAt, pFinder_lookedAt, gFinder_boardCount, pFinder_boardCount, gFinder_pins, nFinder_pins, rFinder_pins, wFinder_pins, gFinder_pinIndexes, nFinder_pinIndexes, rFinder_pinIndexes, wFinder_pinIndexes, gFinder_isPinned, pFinder_isPinned, gFinder_ways, nFinder_ways, rFinder_ways, wFinder_ways, gFinder_knownKeys, nFinder_knownKeys, rFinder_knownKeys, wFinder_knownKeys, gFinder_knownEndings, nFinder_knownEndings, rFinder_knownEndings, wFinder_knownEndings, gFinder_searches, pFinder_searches, gFinder_at_, nFinder_at_, rFinder_at_, wFinder_at_, gFinder_row, nFinder_row, rFinder_row, wFinder_row, b_X2_gatherAtomWays_29, hlow, hcb, hh, hcc]
      rw [← hvl1]
      exact e'
    · intro p hp k b hk hwk hb hbk
      by_cases q : p = z
      · subst q
        apply m' _ _ (by omega)
        rw [hvl1, up_same, upL_at, if_pos rfl, bj_or, hhb k b hk hwk hb hbk, Bool.or_true]
      · have hp20 : p < 20 := bit_lt (n := 20) hx hp
        have hst2 : p + sz n m ≤ 20 := by
          have h := hsub p hp
          have h1 := stpA_oc (p := p) hn hm1 hm2
          rw [h, if_pos rfl] at h1
          have := stpA_lt h1
          omega
        refine hall p ?_ k b hk hwk ?_ hbk
        · rw [low_rest hz, hp, decide_eq_true q]
          rfl
        · exact m1 _ _ (by omega) hb
theorem x_gatherAtomWays {ms : List (Tx × Tx)} {L : List Nat} {w R T i j : Nat} {tx : Nat → ZText} {pg : Nat → ZProg} {le : Nat → ZLearnt} {ln : Nat → ZLine} {tk : Nat → ZTask} {bd : Nat → ZBoard} {vi : Nat → Int32} {va : Nat → Nat → Int32} {vl : Nat → Nat → Int64} {vj : Int64} {la : Option Nat} {me : Nat → Option Nat} (hF : 200000 ≤ F) (hM : okM ms) (h4 : ms.length ≤ 4) (hS : stk vi va ms L) (hj : j < L.length) (hi : i < ms.length) (hw : w < 8192) (hR : R < 44) (hT : T < 44) (hne : R ≠ T) : ∃ vl', f_X2_gatherAtomWays F aFinder (I ((j * 4 + i : Nat) : Int)) (I (w : Nat)) (I ((R * 21 : Nat) : Int)) (I ((T * 21 : Nat) : Int)) (mk (tx, pg, le, ln, tk, bd, vi, va, vl, vj, la, me)) = some (mk (tx, pg, le, ln, tk, bd, vi, va, (vl'), vj, la, me)) ∧ frW vl vl' R ∧ monW vl vl' ∧ ∀ p, (ocp (gl L j) (gm ms i)).testBit p = true → ∀ k b, k ≤ 12 → w.testBit k = true → bj (vl 515 (T * 21 + p + sz (gl L j) (gm ms i))) b = true → b + k < 64 → bj (vl' 515 (R * 21 + p)) (b + k) = true := by
  obtain ⟨t1, t2, t3, t4⟩ := id hS
  obtain ⟨o1, o2, o3, o4⟩ := gm_ok hM hi
  obtain ⟨d1, d2, d3⟩ := t4 j hj
  obtain ⟨r1, r2⟩ := d3 i hi
  have hn := t3 _ (gl_mem hj)
  have hlt := ocp_lt (gl L j) (gm ms i)
  have hcb := x_bitCount (F := F) (M := mk (tx, pg, le, ln, tk, bd, vi, va, vl, vj, la, me)) hlt
  rw [bl_cnt] at hcb
  have hc20 := cnt_le (ocp (gl L j) (gm ms i)) 20
  obtain ⟨vl', e, f', m', h'⟩ := x_gaw29 (F := F) (n := gl L j) (m := gm ms i) hF hn o2 o4 hw hR hT hne _ (ocp (gl L j) (gm ms i)) tx pg le ln tk bd vi va vl vj la me rfl hlt (fun p h => h) F (by omega)
  refine ⟨vl', ?_, f', m', h'⟩
  simp (disch := first | assumption | omega | exact is_Script_draft | exact is_Script_made | exact is_Learner_made | exact is_Learner_madeFirst | (apply is_eScript_tasks; omega) | (apply is_eScript_lines; omega) | (apply is_eScript_ranBy; omega)) only [↓reduceIte, ↓I_n1, obs, I_0n, l_1, l_2, l_3, l_4, l_5, l_6, l_7, l_8, l_11, l_12, l_15, l_16, l_18, l_20, l_21, l_29, l_30, l_31, l_32, l_33, l_39, l_40, l_44, l_45, l_46, l_47, l_48, l_53, l_57, l_63, l_64, l_65, l_66, l_71, l_72, l_75, l_90, l_97, l_120, l_122, l_127, l_128, l_1812, l_3600, l_4000, l_252645135, l_268435456, l_858993459, l_1431655765, I_add, I_mul, I_sub, I_addN, I_mulN, I_subN, ilt_t, ilt_f, ile_t, ile_f, ieq_t, ieq_f, up_same, up_up, I_and, I_or, I_shlN, I_shrN, I_divN, I_remN, dzI, i2cI, narI, Int.toNat_natCast, true_or, or_true, false_or, or_false, true_and, and_true, false_and, and_false, not_true_eq_false, not_false_eq_true, cFinder, gFinder_found, nFinder_found, rFinder_found, gFinder_foundCount, pFinder_foundCount, gFinder_stock, gFinder_lookedAt, pFinder_lookedAt, gFinder_boardCount, pFinder_boardCount, gFinder_pins, nFinder_pins, rFinder_pins, wFinder_pins, gFinder_pinIndexes, nFinder_pinIndexes, rFinder_pinIndexes, wFinder_pinIndexes, gFinder_isPinned, pFinder_isPinned, gFinder_ways, nFinder_ways, rFinder_ways, wFinder_ways, gFinder_knownKeys, nFinder_knownKeys, rFinder_knownKeys, wFinder_knownKeys, gFinder_knownEndings, nFinder_knownEndings, rFinder_knownEndings, wFinder_knownEndings, gFinder_searches, pFinder_searches, gFinder_at_, nFinder_at_, rFinder_at_, wFinder_at_, gFinder_row, nFinder_row, rFinder_row, wFinder_row, cStock, gStock_boards, nStock_boards, rStock_boards, gStock_members, nStock_members, rStock_members, wStock_members, gStock_memberCount, pStock_memberCount, gStock_atoms, nStock_atoms, rStock_atoms, wStock_atoms, gStock_weights, nStock_weights, rStock_weights, wStock_weights, gStock_places, nStock_places, rStock_places, wStock_places, gStock_sizes, nStock_sizes, rStock_sizes, wStock_sizes, gStock_atomCount, pStock_atomCount, gStock_shared, nStock_shared, rStock_shared, wStock_shared, gStock_groups, nStock_groups, rStock_groups, wStock_groups, gStock_groupWeights, nStock_groupWeights, rStock_groupWeights, wStock_groupWeights, gStock_groupCount, pStock_groupCount, gStock_newest, nStock_newest, rStock_newest, wStock_newest, gStock_older, nStock_older, rStock_older, wStock_older, b_X2_gatherAtomWays_29, b_X2_gatherAtomWays_0, f_X2_gatherAtomWays_0, f_X2_gatherAtomWays, r1, r2, hcb]
  exact e
end
