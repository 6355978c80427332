/-! RUNS AND SPOTS -/
theorem I_andn (a b : Nat) (ha : a < 4294967296) : I (a : Int) &&& (I (b : Int) ^^^ I (-1)) = I ((a ^^^ (a &&& b) : Nat) : Int) := Int32.toBitVec_inj.mp (by
  rw [Int32.toBitVec_and, Int32.toBitVec_xor, I_ofNat, I_ofNat, I_ofNat, show (I (-1)).toBitVec = BitVec.allOnes 32 from rfl, BitVec.xor_allOnes]
  apply BitVec.eq_of_getLsbD_eq
  intro i hi
  simp [BitVec.getLsbD_and, BitVec.getLsbD_not, BitVec.getLsbD_ofNat, hi]
  generalize (BitVec.ofNat 32 a)[i] = x
  generalize (BitVec.ofNat 32 b)[i] = y
  cases x <;> cases y <;> rfl)
/-- the bits of m from i on, below 20 -/
def bl (m i : Nat) : List Nat := (List.range' i (20 - i)).filter (fun j => m.testBit j)
theorem bl_end {m i : Nat} (h : 20 ≤ i) : bl m i = [] := by
  unfold bl
  rw [show 20 - i = 0 by omega]
  rfl
theorem bl_step {m i : Nat} (h : i < 20) : bl m i = if m.testBit i then i :: bl m (i + 1) else bl m (i + 1) := by
  unfold bl
  rw [show 20 - i = (20 - (i + 1)) + 1 by omega, List.range'_succ, List.filter_cons]
/-- the first, the second, the last one -/
def nthB (l : List Nat) (w : Int) (last : Int) : Int := if w = 2 then (match l.getLast? with | some x => (x : Int) | none => last) else match l[w.toNat]? with | some x => (x : Int) | none => -1
theorem bit_ne {m i : Nat} (hm : m < 2147483648) (hi : i < 32) : ((I (m : Int) >>> (I (i : Int) &&& 31)) &&& 1 = 0) = (m.testBit i = false) := by
  rw [I_shr hm hi, show (1 : Int32) = I ((1 : Nat) : Int) from rfl, I_and, show (0 : Int32) = I ((0 : Nat) : Int) from rfl, Nat.and_one_is_mod]
  have h2 : (m >>> i) % 2 < 2 := Nat.mod_lt _ (by decide)
  have h3 : m.testBit i = decide ((m >>> i) % 2 = 1) := by
    rw [Nat.testBit_eq_decide_div_mod_eq, Nat.shiftRight_eq_div_pow]
  rw [I_eq (by omega) (by omega) (by omega) (by omega), h3]
  apply propext
  constructor
  · intro h
    exact decide_eq_false (by omega)
  · intro h
    have := of_decide_eq_false h
    omega
theorem nthB_last {l : List Nat} {i : Nat} {last : Int} : nthB (i :: l) 2 last = nthB l 2 i := by
  unfold nthB
  rw [if_pos rfl, if_pos rfl, List.getLast?_cons]
  cases l.getLast? <;> rfl
theorem nthB_zero {l : List Nat} {i : Nat} {last : Int} : nthB (i :: l) 0 last = i := by
  unfold nthB
  rw [if_neg (by decide)]
  rfl
theorem nthB_succ {l : List Nat} {i : Nat} {last w : Int} (h : 1 ≤ w) (h2 : w < 2) : nthB (i :: l) w last = nthB l (w - 1) last := by
  have : w = 1 := by omega
  subst this
  unfold nthB
  rw [if_neg (by decide), if_neg (by decide)]
  rfl
section
variable {F : Nat}
theorem x_run7 {m : Nat} (hm : m < 2147483648) {w : Int} (w0 : 0 ≤ w) (w2 : w ≤ 2) {M : cM} : ∀ (n i : Nat) (last seen : Int), i ≤ 20 → 21 - i ≤ n → 0 ≤ seen → seen ≤ i → (w < 2 → seen ≤ w) → -1 ≤ last → last < 20 → f_X10_placeOfRun_7 F n (I m) (I w) (I last) (I seen) (I i) M = some (I (if w = 2 then nthB (bl m i) 2 last else nthB (bl m i) (w - seen) 0), M) := by
  intro n
  induction n with
  | zero => intro i; intros; omega
  | succ n ih =>
    intro i last seen hi hn s0 s1 s2 l0 l1
    show b_X10_placeOfRun_7 F (f_X10_placeOfRun_7 F n) (I m) (I w) (I last) (I seen) (I i) M = _
    unfold b_X10_placeOfRun_7
    have e20 : ((20 : Int32) ≤ I i) = ((20 : Int) ≤ i) := I_le (a := 20) (by decide) (by decide) (by omega) (by omega)
    have ew2 : (I w = 2) = (w = 2) := I_eq (b := 2) (by omega) (by omega) (by decide) (by decide)
    have ew3 : ((2 : Int32) ≤ I w) = ((2 : Int) ≤ w) := I_le (a := 2) (by decide) (by decide) (by omega) (by omega)
    by_cases h20 : 20 ≤ i
    · rw [if_pos (e20.mpr (by omega)), bl_end h20]
      by_cases h : w = 2
      · rw [if_pos (ew2.mpr h), if_pos h]
        rfl
      · rw [if_neg (fun q => h (ew2.mp q)), if_neg h]
        unfold nthB
        rw [if_neg (by omega)]
        rfl
    · rw [if_neg (fun q => h20 (by have := e20.mp q; omega)), show (1 : Int32) = I 1 from rfl]
      have eb := bit_ne (i := i) hm (by omega)
      rw [show (1 : Int32) = I 1 from rfl] at eb
      have ei : I (i : Int) + I 1 = I ((i + 1 : Nat) : Int) := by rw [I_add]; rfl
      rw [bl_step (by omega : i < 20)]
      by_cases hb : m.testBit i
      · rw [if_neg (fun q => by rw [eb] at q; rw [hb] at q; cases q), if_pos hb]
        have es : (I seen = I w) = (seen = w) := I_eq (by omega) (by omega) (by omega) (by omega)
        by_cases hs : seen = w
        · rw [if_pos (es.mpr hs)]
          by_cases h : w = 2
          · rw [if_pos (ew3.mpr (by omega)), I_add, ei, ih (i + 1) i (seen + 1) (by omega) (by omega) (by omega) (by omega) (by omega) (by omega) (by omega), if_pos h, if_pos h, nthB_last]
          · rw [if_neg (fun q => h (by have := ew3.mp q; omega)), if_neg h, show w - seen = 0 by omega, nthB_zero]
        · rw [if_neg (fun q => hs (es.mp q)), I_add, ei, ih (i + 1) i (seen + 1) (by omega) (by omega) (by omega) (by omega) (by omega) (by omega) (by omega)]
          by_cases h : w = 2
          · rw [if_pos h, if_pos h, nthB_last]
          · rw [if_neg h, if_neg h, nthB_succ (by have := s2 (by omega); omega) (by omega), show w - (seen + 1) = w - seen - 1 by omega]
      · rw [if_pos (eb.mpr (by simpa using hb)), if_neg hb, ei]
        exact ih (i + 1) last seen (by omega) (by omega) s0 (by omega) s2 l0 l1
end
def bgM (m : Nat) : Nat := m ^^^ (m &&& (m <<< 1))
def enM (m : Nat) : Nat := m ^^^ (m &&& (m >>> 1))
theorem bgM_bit (m i : Nat) : (bgM m).testBit i = (m.testBit i && !(decide (1 ≤ i) && m.testBit (i - 1))) := by
  unfold bgM
  rw [Nat.testBit_xor, Nat.testBit_and, Nat.testBit_shiftLeft]
  generalize m.testBit i = x
  generalize (decide (1 ≤ i) && m.testBit (i - 1)) = y
  cases x <;> cases y <;> rfl
theorem enM_bit (m i : Nat) : (enM m).testBit i = (m.testBit i && !m.testBit (i + 1)) := by
  unfold enM
  rw [Nat.testBit_xor, Nat.testBit_and, Nat.testBit_shiftRight, Nat.add_comm 1 i]
  generalize m.testBit i = x
  generalize m.testBit (i + 1) = y
  cases x <;> cases y <;> rfl
theorem lt_of_sub {a b n : Nat} (hb : b < 2 ^ n) (h : ∀ i, a.testBit i = true → b.testBit i = true) : a < 2 ^ n := by
  apply Nat.lt_pow_two_of_testBit
  intro i hi
  have hbi : b.testBit i = false := Nat.testBit_lt_two_pow (Nat.lt_of_lt_of_le hb (Nat.pow_le_pow_right (by decide) hi))
  cases hx : a.testBit i with
  | false => rfl
  | true => rw [h i hx] at hbi; cases hbi
theorem bgM_lt {m n : Nat} (h : m < 2 ^ n) : bgM m < 2 ^ n := lt_of_sub h (fun i hi => by
  rw [bgM_bit] at hi
  simp at hi
  exact hi.1)
theorem enM_lt {m n : Nat} (h : m < 2 ^ n) : enM m < 2 ^ n := lt_of_sub h (fun i hi => by
  rw [enM_bit] at hi
  simp at hi
  exact hi.1)
section
variable {F : Nat} {tx : Nat → ZText} {pg : Nat → ZProg} {le : Nat → ZLearnt} {ln : Nat → ZLine} {tk : Nat → ZTask} {bd : Nat → ZBoard} {vi : Nat → Int32} {va : Nat → Nat → Int32} {vl : Nat → Nat → Int64} {vj : Int64} {la : Option Nat} {me : Nat → Option Nat}
theorem x_placeOfRun {m : Nat} (hm : m < 2147483648) {w : Int} (w0 : 0 ≤ w) (w2 : w ≤ 2) (hF : 21 ≤ F) {M : cM} : f_X10_placeOfRun F (I m) (I w) M = some (I (nthB (bl m 0) w (-1)), M) := by
  simp only [f_X10_placeOfRun, f_X10_placeOfRun_0, b_X10_placeOfRun_0]
  have e := x_run7 (F := F) hm w0 w2 (M := M) F 0 (-1) 0 (by omega) (by omega) (by decide) (by decide) (by omega) (by decide) (by decide)
  rw [show (-1 : Int32) = I (-1) from rfl, show (0 : Int32) = I 0 from rfl]
  refine e.trans ?_
  congr 3
  by_cases h : w = 2
  · rw [if_pos h, h]
  · rw [if_neg h, Int.sub_zero]
    unfold nthB
    rw [if_neg h, if_neg h]
/-- the mask of a class, its runs' begins or ends -/
def prt (m : Nat) (p : Int) : Nat := if p = 1 then bgM m else if p = 2 then enM m else m
theorem x_placesOfRuns {a : Nat} (hT : isText a) {s : List Int} (hs : txt (tx a) s) {k p : Int} (k0 : 0 ≤ k) (k4 : k < 4) (p0 : -2147483648 ≤ p) (p1 : p < 2147483648) : f_X10_placesOfRuns F a (I k) (I p) (mk (tx, pg, le, ln, tk, bd, vi, va, vl, vj, la, me)) = some (I (prt (msk (fa s) k s.length) p), mk (tx, pg, le, ln, tk, bd, vi, va, vl, vj, la, me)) := by
  obtain ⟨h1, h2, h3, h4, h5⟩ := hs
  have hm := msk_lt (fa s) k s.length
  have hm2 : msk (fa s) k s.length < 1048576 := Nat.lt_of_lt_of_le hm (Nat.pow_le_pow_right (by decide) h2 : 2 ^ s.length ≤ 2 ^ 20)
  have ek0 : (I k < 0) = (k < 0) := I_lt (b := 0) (by omega) (by omega) (by decide) (by decide)
  have ek4 : ((4 : Int32) ≤ I k) = ((4 : Int) ≤ k) := I_le (a := 4) (by decide) (by decide) (by omega) (by omega)
  have e1 : (I p = 1) = (p = 1) := I_eq (b := 1) p0 p1 (by decide) (by decide)
  have e2 : (I p = 2) = (p = 2) := I_eq (b := 2) p0 p1 (by decide) (by decide)
  have h5k := h5 k.toNat (by omega)
  rw [show ((k.toNat : Nat) : Int) = k by omega] at h5k
  simp only [f_X10_placesOfRuns, cText hT, if_true]
  unfold f_X10_placesOfRuns_0 b_X10_placesOfRuns_0
  rw [if_neg (fun q => absurd (ek0.mp q) (by omega)), if_neg (fun q => absurd (ek4.mp q) (by omega)), gText_placesOf hT, Option.bind_some, rText_placesOf hT k0 k4, Option.bind_some, h5k]
  unfold f_X10_placesOfRuns_19 b_X10_placesOfRuns_19 prt
  by_cases g1 : p = 1
  · rw [if_pos (e1.mpr g1), if_pos g1, show (-1 : Int32) = I (-1) from rfl, show (1 : Int32) = I ((1 : Nat) : Int) from rfl, I_shl (by decide), I_andn _ _ (by omega)]
    rfl
  · rw [if_neg (fun q => g1 (e1.mp q)), if_neg g1]
    by_cases g2 : p = 2
    · rw [if_pos (e2.mpr g2), if_pos g2, show (-1 : Int32) = I (-1) from rfl, show (1 : Int32) = I ((1 : Nat) : Int) from rfl, I_shr (by omega) (by decide), I_andn _ _ (by omega)]
      rfl
    · rw [if_neg (fun q => g2 (e2.mp q)), if_neg g2]
end
