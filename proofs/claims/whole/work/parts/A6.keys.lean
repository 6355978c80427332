/-! KEYS OF WHAT WAS FOUND -/
def Lg (n : Nat) : Int64 := Int64.ofNat n
theorem Lg_mul (a b : Nat) : Lg a * Lg b = Lg (a * b) := (Int64.ofNat_mul a b).symm
theorem Lg_add (a b : Nat) : Lg a + Lg b = Lg (a + b) := (Int64.ofNat_add a b).symm
theorem Lg_inj {a b : Nat} (ha : a < 2 ^ 63) (hb : b < 2 ^ 63) (h : Lg a = Lg b) : a = b := by
  have h1 := Int64.toInt_ofNat_of_lt ha
  have h2 := Int64.toInt_ofNat_of_lt hb
  have h : Int64.ofNat a = Int64.ofNat b := h
  rw [h] at h1
  omega
theorem Lg_I {v : Nat} (h : v < 2147483648) : (I (v : Int)).toInt64 = Lg v := by
  unfold I
  rw [Int32.toInt64_ofInt (by show (-2147483648 : Int) ≤ _; omega) (by show _ ≤ (2147483647 : Int); omega)]
  exact Int64.ofInt_eq_ofNat
/-- where a key's row is -/
def slt (k : Int64) : Nat := (k * (-7046029254386353131)).toBitVec.toNat >>> 53
theorem slt_lt (k : Int64) : slt k < 2048 := by
  unfold slt
  generalize k * (-7046029254386353131) = y
  have := y.toBitVec.isLt
  rw [Nat.shiftRight_eq_div_pow]
  omega
theorem slt_aux (y : Int64) : ((y.toUInt64 >>> ((53 : Int32).toInt64.toUInt64 &&& Int64.toUInt64 63)).toInt64).toInt32 = I ((y.toBitVec.toNat >>> 53 : Nat) : Int) := by
  have h53 : ((53 : Int32).toInt64.toUInt64 &&& Int64.toUInt64 63) = UInt64.ofNat 53 := by decide +kernel
  rw [h53]
  have h1 : ((y.toUInt64 >>> UInt64.ofNat 53).toInt64).toBitVec = y.toBitVec >>> (53 : Nat) := by
    rw [UInt64.toBitVec_toInt64, UInt64.toBitVec_shiftRight, Int64.toBitVec_toUInt64]
    exact BitVec.ushiftRight_eq' y.toBitVec 53#64
  apply Int32.toBitVec_inj.mp
  rw [I_ofNat, Int64.toBitVec_toInt32, h1]
  generalize y.toBitVec = z
  have hz := z.isLt
  have e : (z >>> (53 : Nat)).toNat = z.toNat >>> 53 := BitVec.toNat_ushiftRight z 53
  have hs : z.toNat >>> 53 < 2048 := by
    rw [Nat.shiftRight_eq_div_pow]
    omega
  generalize z >>> (53 : Nat) = x at *
  generalize z.toNat >>> 53 = n at *
  apply BitVec.eq_of_toNat_eq
  rw [BitVec.toNat_signExtend, BitVec.toNat_ofNat, BitVec.msb_eq_false_iff_two_mul_lt.mpr (by rw [e]; omega), BitVec.toNat_setWidth, e]
  simp only [Bool.false_eq_true, if_false, Nat.add_zero]
theorem slt_eq (k : Int64) : (((k * (-7046029254386353131)).toUInt64 >>> ((53 : Int32).toInt64.toUInt64 &&& Int64.toUInt64 63)).toInt64).toInt32 = I (slt k : Nat) := slt_aux (k * (-7046029254386353131))
/-- the number of a key -/
def dig (m : Nat) (ps : List Nat) : Nat → Nat → Nat
  | 0, x => x
  | d + 1, x => dig m ps d (x * 21 + if 4 - (d + 1) < m then gn ps (4 - (d + 1)) else 0)
def keyN (S L m : Nat) (ps : List Nat) : Nat := dig m ps 4 (S * 11 + L)
theorem keyN_eq {S L m : Nat} {ps : List Nat} : keyN S L m ps = ((((S * 11 + L) * 21 + if 0 < m then gn ps 0 else 0) * 21 + if 1 < m then gn ps 1 else 0) * 21 + if 2 < m then gn ps 2 else 0) * 21 + if 3 < m then gn ps 3 else 0 := rfl
theorem keyN_inj {S L L' m : Nat} {ps ps' : List Nat} (hL : L < 11) (hL' : L' < 11) (hl : ps.length = m) (hl' : ps'.length = m) (hm : m ≤ 4) (h : ∀ i, i < m → gn ps i ≤ 20) (h' : ∀ i, i < m → gn ps' i ≤ 20) (e : keyN S L m ps = keyN S L' m ps') : L = L' ∧ ps = ps' := by
  rw [keyN_eq, keyN_eq] at e
  have key : ∀ i, (if i < m then gn ps i else 0) ≤ 20 ∧ (if i < m then gn ps' i else 0) ≤ 20 := fun i => by
    by_cases c : i < m
    · rw [if_pos c, if_pos c]
      exact ⟨h i c, h' i c⟩
    · rw [if_neg c, if_neg c]
      omega
  have k0 := key 0
  have k1 := key 1
  have k2 := key 2
  have k3 := key 3
  generalize ha0 : (if 0 < m then gn ps 0 else 0) = a0 at *
  generalize ha1 : (if 1 < m then gn ps 1 else 0) = a1 at *
  generalize ha2 : (if 2 < m then gn ps 2 else 0) = a2 at *
  generalize ha3 : (if 3 < m then gn ps 3 else 0) = a3 at *
  generalize hb0 : (if 0 < m then gn ps' 0 else 0) = b0 at *
  generalize hb1 : (if 1 < m then gn ps' 1 else 0) = b1 at *
  generalize hb2 : (if 2 < m then gn ps' 2 else 0) = b2 at *
  generalize hb3 : (if 3 < m then gn ps' 3 else 0) = b3 at *
  have q : L = L' ∧ a0 = b0 ∧ a1 = b1 ∧ a2 = b2 ∧ a3 = b3 := by
    clear key h h'
    omega
  obtain ⟨q0, q1, q2, q3, q4⟩ := q
  refine ⟨q0, List.ext_getElem (hl.trans hl'.symm) fun i hi hi' => ?_⟩
  have hg : gn ps i = gn ps' i := by
    have him : i < m := by omega
    have : i = 0 ∨ i = 1 ∨ i = 2 ∨ i = 3 := by omega
    rcases this with rfl | rfl | rfl | rfl
    · rw [if_pos him] at ha0 hb0
      rw [ha0, hb0, q1]
    · rw [if_pos him] at ha1 hb1
      rw [ha1, hb1, q2]
    · rw [if_pos him] at ha2 hb2
      rw [ha2, hb2, q3]
    · rw [if_pos him] at ha3 hb3
      rw [ha3, hb3, q4]
  unfold gn at hg
  rw [List.getD_eq_getElem?_getD, List.getD_eq_getElem?_getD, List.getElem?_eq_getElem hi, List.getElem?_eq_getElem hi'] at hg
  exact hg
theorem keyN_bd {S L m : Nat} {ps : List Nat} (hL : L < 11) (h : ∀ i, i < m → gn ps i ≤ 20) : S * 2139291 ≤ keyN S L m ps ∧ keyN S L m ps < (S + 1) * 2139291 := by
  rw [keyN_eq]
  have key : ∀ i, (if i < m then gn ps i else 0) ≤ 20 := fun i => by
    by_cases c : i < m
    · rw [if_pos c]
      exact h i c
    · rw [if_neg c]
      omega
  have k0 := key 0
  have k1 := key 1
  have k2 := key 2
  have k3 := key 3
  omega
section
variable {F : Nat}
theorem x_key15 {ms : List (Tx × Tx)} {A : Nat → Nat} {ps : List Nat} {q : Nat} {tx : Nat → ZText} {pg : Nat → ZProg} {le : Nat → ZLearnt} {ln : Nat → ZLine} {tk : Nat → ZTask} {bd : Nat → ZBoard} {vi : Nat → Int32} {va : Nat → Nat → Int32} {vl : Nat → Nat → Int64} {vj : Int64} {la : Option Nat} {me : Nat → Option Nat} (hq : q < 4) (hM : mems tx bd vi me A ms) (hp : psOk ms ps) (hat : atR va ms q ps) : ∀ (d f x : Nat), d ≤ 4 → d < f → f_X2_keyOf_15 F f aFinder (I (q : Nat)) (Lg x) (I ((4 - d : Nat) : Int)) (mk (tx, pg, le, ln, tk, bd, vi, va, vl, vj, la, me)) = some (Lg (dig ms.length ps d x), mk (tx, pg, le, ln, tk, bd, vi, va, vl, vj, la, me)) := by
  intro d
  induction d with
  | zero =>
    intro f x hd hf
    obtain ⟨f, rfl⟩ : ∃ g, f = g + 1 := ⟨f - 1, by omega⟩
    rw [s_X2_keyOf_15]
    simp (disch := first | assumption | omega | exact is_Script_draft | exact is_Script_made | exact is_Learner_made | exact is_Learner_madeFirst | (apply is_eScript_tasks; omega) | (apply is_eScript_lines; omega) | (apply is_eScript_ranBy; omega)) only [↓reduceIte, ↓I_n1, obs, I_0n, l_1, l_2, l_3, l_4, l_5, l_6, l_7, l_8, l_11, l_12, l_15, l_16, l_18, l_20, l_21, l_29, l_30, l_31, l_32, l_33, l_39, l_40, l_44, l_45, l_46, l_47, l_48, l_53, l_57, l_63, l_64, l_65, l_66, l_71, l_72, l_75, l_90, l_97, l_120, l_122, l_127, l_128, l_1812, l_3600, l_4000, l_252645135, l_268435456, l_858993459, l_1431655765, I_add, I_mul, I_sub, I_addN, I_mulN, I_subN, ilt_t, ilt_f, ile_t, ile_f, ieq_t, ieq_f, up_same, up_up, I_and, I_or, I_shlN, I_shrN, I_divN, I_remN, dzI, i2cI, narI, Int.toNat_natCast, true_or, or_true, false_or, or_false, true_and, and_true, false_and, and_false, not_true_eq_false, not_false_eq_true, cFinder, gFinder_found, nFinder_found, rFinder_found, gFinder_foundCount, pFinder_foundCount, gFinder_stock, gFinder_lookedAt, pFinder_lookedAt, gFinder_boardCount, pFinder_boardCount, gFinder_pins, nFinder_pins, rFinder_pins, wFinder_pins, gFinder_pinIndexes, nFinder_pinIndexes, rFinder_pinIndexes, wFinder_pinIndexes, gFinder_isPinned, pFinder_isPinned, gFinder_ways, nFinder_ways, rFinder_ways, wFinder_ways, gFinder_knownKeys, nFinder_knownKeys, rFinder_knownKeys, wFinder_knownKeys, gFinder_knownEndings, nFinder_knownEndings, rFinder_knownEndings, wFinder_knownEndings, gFinder_searches, pFinder_searches, gFinder_at_, nFinder_at_, rFinder_at_, wFinder_at_, gFinder_row, nFinder_row, rFinder_row, wFinder_row, b_X2_keyOf_15]
    rfl
  | succ d ih =>
    intro f x hd hf
    obtain ⟨f, rfl⟩ : ∃ g, f = g + 1 := ⟨f - 1, by omega⟩
    obtain ⟨m1, m2, m3, m4, m5⟩ := id hM
    rw [s_X2_keyOf_15]
    obtain ⟨i, hi⟩ : ∃ i, i = 4 - (d + 1) := ⟨_, rfl⟩
    have hi1 : i + 1 = 4 - d := by omega
    have hi4 : i < 4 := by omega
    have e' := ih f (x * 21 + if i < ms.length then gn ps i else 0) (by omega) (by omega)
    rw [← hi1] at e'
    show _ = some (Lg (dig ms.length ps d (x * 21 + if 4 - (d + 1) < ms.length then gn ps (4 - (d + 1)) else 0)), _)
    rw [← hi, ← e']
    by_cases c : i < ms.length
    · rw [if_pos c]
      have ha := hat i c
      have h20 := (gm_ok m4 c).2.2.2
      have hpi := hp.2 i c
      have hl : Lg x * 21 + (I (gn ps i : Nat)).toInt64 = Lg (x * 21 + gn ps i) := by
        rw [Lg_I (by omega), ← Lg_add, ← Lg_mul]
        rfl
      simp (disch := first | assumption | omega | exact is_Script_draft | exact is_Script_made | exact is_Learner_made | exact is_Learner_madeFirst | (apply is_eScript_tasks; omega) | (apply is_eScript_lines; omega) | (apply is_eScript_ranBy; omega)) only [↓reduceIte, ↓I_n1, obs, I_0n, l_1, l_2, l_3, l_4, l_5, l_6, l_7, l_8, l_11, l_12, l_15, l_16, l_18, l_20, l_21, l_29, l_30, l_31, l_32, l_33, l_39, l_40, l_44, l_45, l_46, l_47, l_48, l_53, l_57, l_63, l_64, l_65, l_66, l_71, l_72, l_75, l_90, l_97, l_120, l_122, l_127, l_128, l_1812, l_3600, l_4000, l_252645135, l_268435456, l_858993459, l_1431655765, I_add, I_mul, I_sub, I_addN, I_mulN, I_subN, ilt_t, ilt_f, ile_t, ile_f, ieq_t, ieq_f, up_same, up_up, I_and, I_or, I_shlN, I_shrN, I_divN, I_remN, dzI, i2cI, narI, Int.toNat_natCast, true_or, or_true, false_or, or_false, true_and, and_true, false_and, and_false, not_true_eq_false, not_false_eq_true, cFinder, gFinder_found, nFinder_found, rFinder_found, gFinder_foundCount, pFinder_foundCount, gFinder_stock, gFinder_lookedAt, pFinder_lookedAt, gFinder_boardCount, pFinder_boardCount, gFinder_pins, nFinder_pins, rFinder_pins, wFinder_pins, gFinder_pinIndexes, nFinder_pinIndexes, rFinder_pinIndexes, wFinder_pinIndexes, gFinder_isPinned, pFinder_isPinned, gFinder_ways, nFinder_ways, rFinder_ways, wFinder_ways, gFinder_knownKeys, nFinder_knownKeys, rFinder_knownKeys, wFinder_knownKeys, gFinder_knownEndings, nFinder_knownEndings, rFinder_knownEndings, wFinder_knownEndings, gFinder_searches, pFinder_searches, gFinder_at_, nFinder_at_, rFinder_at_, wFinder_at_, gFinder_row, nFinder_row, rFinder_row, wFinder_row, cStock, gStock_boards, nStock_boards, rStock_boards, gStock_members, nStock_members, rStock_members, wStock_members, gStock_memberCount, pStock_memberCount, gStock_atoms, nStock_atoms, rStock_atoms, wStock_atoms, gStock_weights, nStock_weights, rStock_weights, wStock_weights, gStock_places, nStock_places, rStock_places, wStock_places, gStock_sizes, nStock_sizes, rStock_sizes, wStock_sizes, gStock_atomCount, pStock_atomCount, gStock_shared, nStock_shared, rStock_shared, wStock_shared, gStock_groups, nStock_groups, rStock_groups, wStock_groups, gStock_groupWeights, nStock_groupWeights, rStock_groupWeights, wStock_groupWeights, gStock_groupCount, pStock_groupCount, gStock_newest, nStock_newest, rStock_newest, wStock_newest, gStock_older, nStock_older, rStock_older, wStock_older, b_X2_keyOf_15, m1, ha, hl]
    · rw [if_neg c]
      have hl : Lg x * 21 + (I ((0 : Nat) : Int)).toInt64 = Lg (x * 21 + 0) := by
        rw [Lg_I (by omega), ← Lg_add, ← Lg_mul]
        rfl
      simp (disch := first | assumption | omega | exact is_Script_draft | exact is_Script_made | exact is_Learner_made | exact is_Learner_madeFirst | (apply is_eScript_tasks; omega) | (apply is_eScript_lines; omega) | (apply is_eScript_ranBy; omega)) only [↓reduceIte, ↓I_n1, obs, I_0n, l_1, l_2, l_3, l_4, l_5, l_6, l_7, l_8, l_11, l_12, l_15, l_16, l_18, l_20, l_21, l_29, l_30, l_31, l_32, l_33, l_39, l_40, l_44, l_45, l_46, l_47, l_48, l_53, l_57, l_63, l_64, l_65, l_66, l_71, l_72, l_75, l_90, l_97, l_120, l_122, l_127, l_128, l_1812, l_3600, l_4000, l_252645135, l_268435456, l_858993459, l_1431655765, I_add, I_mul, I_sub, I_addN, I_mulN, I_subN, ilt_t, ilt_f, ile_t, ile_f, ieq_t, ieq_f, up_same, up_up, I_and, I_or, I_shlN, I_shrN, I_divN, I_remN, dzI, i2cI, narI, Int.toNat_natCast, true_or, or_true, false_or, or_false, true_and, and_true, false_and, and_false, not_true_eq_false, not_false_eq_true, cFinder, gFinder_found, nFinder_found, rFinder_found, gFinder_foundCount, pFinder_foundCount, gFinder_stock, gFinder_lookedAt, pFinder_lookedAt, gFinder_boardCount, pFinder_boardCount, gFinder_pins, nFinder_pins, rFinder_pins, wFinder_pins, gFinder_pinIndexes, nFinder_pinIndexes, rFinder_pinIndexes, wFinder_pinIndexes, gFinder_isPinned, pFinder_isPinned, gFinder_ways, nFinder_ways, rFinder_ways, wFinder_ways, gFinder_knownKeys, nFinder_knownKeys, rFinder_knownKeys, wFinder_knownKeys, gFinder_knownEndings, nFinder_knownEndings, rFinder_knownEndings, wFinder_knownEndings, gFinder_searches, pFinder_searches, gFinder_at_, nFinder_at_, rFinder_at_, wFinder_at_, gFinder_row, nFinder_row, rFinder_row, wFinder_row, cStock, gStock_boards, nStock_boards, rStock_boards, gStock_members, nStock_members, rStock_members, wStock_members, gStock_memberCount, pStock_memberCount, gStock_atoms, nStock_atoms, rStock_atoms, wStock_atoms, gStock_weights, nStock_weights, rStock_weights, wStock_weights, gStock_places, nStock_places, rStock_places, wStock_places, gStock_sizes, nStock_sizes, rStock_sizes, wStock_sizes, gStock_atomCount, pStock_atomCount, gStock_shared, nStock_shared, rStock_shared, wStock_shared, gStock_groups, nStock_groups, rStock_groups, wStock_groups, gStock_groupWeights, nStock_groupWeights, rStock_groupWeights, wStock_groupWeights, gStock_groupCount, pStock_groupCount, gStock_newest, nStock_newest, rStock_newest, wStock_newest, gStock_older, nStock_older, rStock_older, wStock_older, b_X2_keyOf_15, m1, hl]
theorem x_keyOf {ms : List (Tx × Tx)} {A : Nat → Nat} {ps : List Nat} {q S L : Nat} {tx : Nat → ZText} {pg : Nat → ZProg} {le : Nat → ZLearnt} {ln : Nat → ZLine} {tk : Nat → ZTask} {bd : Nat → ZBoard} {vi : Nat → Int32} {va : Nat → Nat → Int32} {vl : Nat → Nat → Int64} {vj : Int64} {la : Option Nat} {me : Nat → Option Nat} (hF : 200000 ≤ F) (hq : q < 4) (hL : L < 11) (hM : mems tx bd vi me A ms) (hp : psOk ms ps) (hat : atR va ms q ps) (hS : vj = Lg S) : f_X2_keyOf F aFinder (I (L : Nat)) (I (q : Nat)) (mk (tx, pg, le, ln, tk, bd, vi, va, vl, vj, la, me)) = some (Lg (keyN S L ms.length ps), mk (tx, pg, le, ln, tk, bd, vi, va, vl, vj, la, me)) := by
  have e := x_key15 (F := F) (tx := tx) (pg := pg) (le := le) (ln := ln) (tk := tk) (bd := bd) (vi := vi) (va := va) (vl := vl) (vj := vj) (la := la) (me := me) hq hM hp hat 4 F (S * 11 + L) (Nat.le_refl _) (by omega)
  have hl : Lg S * 11 + (I (L : Nat)).toInt64 = Lg (S * 11 + L) := by
    rw [Lg_I (by omega), ← Lg_add, ← Lg_mul]
    rfl
  simp (disch := first | assumption | omega | exact is_Script_draft | exact is_Script_made | exact is_Learner_made | exact is_Learner_madeFirst | (apply is_eScript_tasks; omega) | (apply is_eScript_lines; omega) | (apply is_eScript_ranBy; omega)) only [↓reduceIte, ↓I_n1, obs, I_0n, l_1, l_2, l_3, l_4, l_5, l_6, l_7, l_8, l_11, l_12, l_15, l_16, l_18, l_20, l_21, l_29, l_30, l_31, l_32, l_33, l_39, l_40, l_44, l_45, l_46, l_47, l_48, l_53, l_57, l_63, l_64, l_65, l_66, l_71, l_72, l_75, l_90, l_97, l_120, l_122, l_127, l_128, l_1812, l_3600, l_4000, l_252645135, l_268435456, l_858993459, l_1431655765, I_add, I_mul, I_sub, I_addN, I_mulN, I_subN, ilt_t, ilt_f, ile_t, ile_f, ieq_t, ieq_f, up_same, up_up, I_and, I_or, I_shlN, I_shrN, I_divN, I_remN, dzI, i2cI, narI, Int.toNat_natCast, true_or, or_true, false_or, or_false, true_and, and_true, false_and, and_false, not_true_eq_false, not_false_eq_true, cFinder, gFinder_found, nFinder_found, rFinder_found, gFinder_foundCount, pFinder_foundCount, gFinder_stock, gFinder_lookedAt, pFinder_lookedAt, gFinder_boardCount, pFinder_boardCount, gFinder_pins, nFinder_pins, rFinder_pins, wFinder_pins, gFinder_pinIndexes, nFinder_pinIndexes, rFinder_pinIndexes, wFinder_pinIndexes, gFinder_isPinned, pFinder_isPinned, gFinder_ways, nFinder_ways, rFinder_ways, wFinder_ways, gFinder_knownKeys, nFinder_knownKeys, rFinder_knownKeys, wFinder_knownKeys, gFinder_knownEndings, nFinder_knownEndings, rFinder_knownEndings, wFinder_knownEndings, gFinder_searches, pFinder_searches, gFinder_at_, nFinder_at_, rFinder_at_, wFinder_at_, gFinder_row, nFinder_row, rFinder_row, wFinder_row, b_X2_keyOf_15, b_X2_keyOf_0, f_X2_keyOf_0, f_X2_keyOf, hS, hl]
  rw [hS] at e
  exact e
end
