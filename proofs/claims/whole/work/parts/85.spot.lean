/-! THE PLACE OF A SPOT -/
theorem I_div {a b : Nat} (ha : a < 2147483648) (hb : b < 2147483648) : I (a : Int) / I (b : Int) = I ((a / b : Nat) : Int) := by
  unfold I
  rw [Int32.ofInt_eq_ofNat, Int32.ofInt_eq_ofNat, Int32.ofInt_eq_ofNat]
  exact (Int32.ofNat_div (by omega) (by omega)).symm
theorem I_rem {a b : Nat} (ha : a < 2147483648) (hb : b < 2147483648) : I (a : Int) - I (a : Int) / I (b : Int) * I (b : Int) = I ((a % b : Nat) : Int) := by
  rw [I_div ha hb, I_mul, I_sub]
  congr 1
  have h := Nat.div_add_mod a b
  have h2 : ((b * (a / b) + a % b : Nat) : Int) = (a : Int) := by rw [h]
  rw [Int.natCast_add, Int.natCast_mul] at h2
  rw [Int.mul_comm]
  omega
theorem nthB_bd {m : Nat} {w : Int} : -1 ≤ nthB (bl m 0) w (-1) ∧ nthB (bl m 0) w (-1) < 20 := by
  have hx : ∀ x, x ∈ bl m 0 → x < 20 := fun x h => by
    unfold bl at h
    have := (List.mem_filter.mp h).1
    rw [List.mem_range'] at this
    omega
  unfold nthB
  by_cases h : w = 2
  · rw [if_pos h]
    cases hg : (bl m 0).getLast? with
    | none => exact ⟨by decide, by decide⟩
    | some x =>
      have := hx x (List.mem_of_getLast? hg)
      dsimp only
      omega
  · rw [if_neg h]
    cases hg : (bl m 0)[w.toNat]? with
    | none => exact ⟨by decide, by decide⟩
    | some x =>
      have := hx x (List.mem_of_getElem? hg)
      dsimp only
      omega
/-- the place that the spot 6 + q tells, of the runs -/
def plr (s : List Int) (q : Nat) : Int := if q % 6 < 3 then nthB (bl (bgM (msk (fa s) (q / 6 : Nat) s.length)) 0) (q % 3 : Nat) (-1) else if nthB (bl (enM (msk (fa s) (q / 6 : Nat) s.length)) 0) (q % 3 : Nat) (-1) = -1 then -1 else nthB (bl (enM (msk (fa s) (q / 6 : Nat) s.length)) 0) (q % 3 : Nat) (-1) + 1
def plc (s : List Int) (sp : Nat) : Int := if sp < 3 then (if sp ≤ s.length then sp else -1) else if sp < 6 then (if sp - 3 ≤ s.length then s.length - (sp - 3 : Nat) else -1) else plr s (sp - 6)
section
variable {F : Nat} {tx : Nat → ZText} {pg : Nat → ZProg} {le : Nat → ZLearnt} {ln : Nat → ZLine} {tk : Nat → ZTask} {bd : Nat → ZBoard} {vi : Nat → Int32} {va : Nat → Nat → Int32} {vl : Nat → Nat → Int64} {vj : Int64} {la : Option Nat} {me : Nat → Option Nat}
theorem x_spot96 {a : Nat} (hT : isText a) {s : List Int} (hs : txt (tx a) s) (hF : 21 ≤ F) {q : Nat} (hq : q < 24) (e : Int) (he : e = 0 ∧ q % 6 < 3 ∨ e = 1 ∧ ¬ q % 6 < 3) : f_X10_placeOfSpot_84 F a (I ((6 + q : Nat) : Int)) (I ((q / 6 : Nat) : Int)) (I e) (mk (tx, pg, le, ln, tk, bd, vi, va, vl, vj, la, me)) = some (I (plr s q), mk (tx, pg, le, ln, tk, bd, vi, va, vl, vj, la, me)) := by
  have hm := msk_lt (fa s) (q / 6 : Nat) s.length
  have hm2 : msk (fa s) (q / 6 : Nat) s.length < 2 ^ 20 := Nat.lt_of_lt_of_le hm (Nat.pow_le_pow_right (by decide) hs.2.1)
  have hb := bgM_lt hm2
  have hn := enM_lt hm2
  have e3 : I ((6 + q : Nat) : Int) - I ((6 + q : Nat) : Int) / 3 * 3 = I ((q % 3 : Nat) : Int) := by
    rw [show (3 : Int32) = I ((3 : Nat) : Int) from rfl, I_rem (by omega) (by decide)]
    congr 2
    omega
  unfold f_X10_placeOfSpot_84 b_X10_placeOfSpot_84 plr
  rcases he with ⟨rfl, h6⟩ | ⟨rfl, h6⟩
  · rw [if_pos I00, if_pos h6]
    unfold f_X10_placeOfSpot_96 b_X10_placeOfSpot_96
    rw [show (1 : Int32) = I 1 from rfl, x_placesOfRuns hT hs (by omega) (by omega) (by decide) (by decide), Option.bind_some]
    unfold dz
    rw [if_neg (by decide), e3]
    unfold prt
    rw [if_pos rfl, x_placeOfRun (by omega) (by omega) (by omega) hF, Option.bind_some, if_pos I00]
  · rw [if_neg I10', if_neg h6]
    unfold f_X10_placeOfSpot_96 b_X10_placeOfSpot_96
    rw [show (2 : Int32) = I 2 from rfl, x_placesOfRuns hT hs (by omega) (by omega) (by decide) (by decide), Option.bind_some]
    unfold dz
    rw [if_neg (by decide), e3]
    unfold prt
    rw [if_neg (by decide), if_pos rfl, x_placeOfRun (by omega) (by omega) (by omega) hF, Option.bind_some, if_neg I10']
    have hbd := nthB_bd (m := enM (msk (fa s) (q / 6 : Nat) s.length)) (w := (q % 3 : Nat))
    dsimp only
    have en : (I (nthB (bl (enM (msk (fa s) (q / 6 : Nat) s.length)) 0) (q % 3 : Nat) (-1)) = -1) = (nthB (bl (enM (msk (fa s) (q / 6 : Nat) s.length)) 0) (q % 3 : Nat) (-1) = -1) := (congrArg (fun x : Int32 => I _ = x) (show (-1 : Int32) = I (-1) from rfl)).trans (I_eq (by omega) (by omega) (by decide) (by decide))
    by_cases h : nthB (bl (enM (msk (fa s) (q / 6 : Nat) s.length)) 0) (q % 3 : Nat) (-1) = -1
    · rw [if_pos (en.mpr h), if_pos h, h]
    · rw [if_neg (fun g => h (en.mp g)), if_neg h, show (1 : Int32) = I 1 from rfl, I_add]
theorem x_placeOfSpot {a : Nat} (hT : isText a) {s : List Int} (hs : txt (tx a) s) (hF : 21 ≤ F) {sp : Nat} (hsp : sp < 30) : f_X10_placeOfSpot F a (I (sp : Int)) (mk (tx, pg, le, ln, tk, bd, vi, va, vl, vj, la, me)) = some (I (plc s sp), mk (tx, pg, le, ln, tk, bd, vi, va, vl, vj, la, me)) := by
  have hz := hs.1
  have hl := hs.2.1
  simp only [f_X10_placeOfSpot, cText hT, if_true]
  unfold f_X10_placeOfSpot_0 b_X10_placeOfSpot_0 plc
  have e0 : (I (sp : Int) < 0) = ((sp : Int) < 0) := I_lt (b := 0) (by omega) (by omega) (by decide) (by decide)
  have e30 : (I (sp : Int) < 30) = ((sp : Int) < 30) := I_lt (b := 30) (by omega) (by omega) (by decide) (by decide)
  have e3 : ((3 : Int32) ≤ I (sp : Int)) = ((3 : Int) ≤ sp) := I_le (a := 3) (by decide) (by decide) (by omega) (by omega)
  have e6 : ((6 : Int32) ≤ I (sp : Int)) = ((6 : Int) ≤ sp) := I_le (a := 6) (by decide) (by decide) (by omega) (by omega)
  rw [if_neg (fun q => absurd (e0.mp q) (by omega)), if_pos (e30.mpr (by omega))]
  by_cases h3 : sp < 3
  · rw [if_neg (fun q => absurd (e3.mp q) (by omega)), if_pos h3, gText_size hT, Option.bind_some, hz]
    have es : (I (s.length : Int) < I (sp : Int)) = ((s.length : Int) < sp) := I_lt (by omega) (by omega) (by omega) (by omega)
    by_cases h : sp ≤ s.length
    · rw [if_neg (fun q => absurd (es.mp q) (by omega)), if_pos h]
    · rw [if_pos (es.mpr (by omega)), if_neg h]
      rfl
  rw [if_pos (e3.mpr (by omega)), if_neg h3]
  by_cases h6 : sp < 6
  · rw [if_neg (fun q => absurd (e6.mp q) (by omega)), if_pos h6, gText_size hT, Option.bind_some, hz, show (3 : Int32) = I 3 from rfl, I_sub]
    have es : (I (s.length : Int) < I ((sp : Int) - 3)) = ((s.length : Int) < (sp : Int) - 3) := I_lt (by omega) (by omega) (by omega) (by omega)
    by_cases h : sp - 3 ≤ s.length
    · rw [if_neg (fun q => absurd (es.mp q) (by omega)), if_pos h, Option.bind_some, I_sub]
      congr 3
      omega
    · rw [if_pos (es.mpr (by omega)), if_neg h]
      rfl
  · obtain ⟨q, rfl⟩ : ∃ q, sp = 6 + q := ⟨sp - 6, by omega⟩
    have ed : I ((6 + q : Nat) : Int) - 6 = I (q : Int) := by
      rw [show (6 : Int32) = I 6 from rfl, I_sub]
      congr 1
      omega
    rw [if_pos (e6.mpr (by omega)), if_neg h6, show 6 + q - 6 = q by omega]
    unfold dz
    rw [if_neg (by decide)]
    dsimp only
    rw [if_neg (by decide), ed, show (6 : Int32) = I ((6 : Nat) : Int) from rfl, I_rem (by omega) (by decide), I_div (by omega) (by decide)]
    have em : (I ((q % 6 : Nat) : Int) < 3) = (((q % 6 : Nat) : Int) < 3) := I_lt (b := 3) (by omega) (by omega) (by decide) (by decide)
    by_cases h : q % 6 < 3
    · rw [if_pos (em.mpr (by omega))]
      exact x_spot96 hT hs hF (by omega) 0 (Or.inl ⟨rfl, h⟩)
    · rw [if_neg (fun g => absurd (em.mp g) (by omega))]
      exact x_spot96 hT hs hF (by omega) 1 (Or.inr ⟨rfl, h⟩)
end
