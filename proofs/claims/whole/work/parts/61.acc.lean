/-! READING AND WRITING THE TYPED STATE (laid by wip/whole/tools/gen_typed.py). Ints are I n, n an Int. -/
def I (n : Int) : Int32 := Int32.ofInt n
def J (n : Int) : Int64 := Int64.ofInt n
theorem I_nn {i : Int} (h0 : 0 ≤ i) (h1 : i < 2147483648) : ¬ I i < 0 := by
  unfold I
  rw [Int32.lt_iff_toInt_lt, Int32.toInt_ofInt_of_le (by omega) (by omega)]
  show ¬ i < 0
  omega
theorem I_nat {i : Int} (h0 : -2147483648 ≤ i) (h1 : i < 2147483648) : (I i).toNatClampNeg = i.toNat := by
  unfold I
  exact Int32.toNatClampNeg_ofInt_of_le (by omega) (by omega)
theorem I_in {i : Int} {n : Nat} (h0 : 0 ≤ i) (h1 : i < n) (hn : n ≤ 2147483648) : ¬ (I i < 0 ∨ n ≤ (I i).toNatClampNeg) := by
  rw [I_nat (by omega) (by omega)]
  have := I_nn h0 (by omega : i < 2147483648)
  intro h
  rcases h with h | h
  · exact this h
  · omega
section
variable {z z' : Z} {a ci k n : Nat} {g : TZ} {fs : List Value}
theorem rd_gF {v : Value} (h : shp[a]? = some g) (hz : zc z g = .inr (ci, fs)) (hv : fs[k]? = some v) : gF (mk z) a ci k = some v := by
  unfold gF
  rw [mk_get h, hz]
  dsimp only
  rw [if_pos rfl, hv]
theorem rd_fI {v : Int32} (h : shp[a]? = some g) (hz : zc z g = .inr (ci, fs)) (hv : fs[k]? = some (.int v)) : fI (mk z) a ci k = some v := by
  unfold fI
  rw [rd_gF h hz hv]
theorem rd_fJ {v : Int64} (h : shp[a]? = some g) (hz : zc z g = .inr (ci, fs)) (hv : fs[k]? = some (.long v)) : fJ (mk z) a ci k = some v := by
  unfold fJ
  rw [rd_gF h hz hv]
theorem rd_fR {v : Nat} (h : shp[a]? = some g) (hz : zc z g = .inr (ci, fs)) (hv : fs[k]? = some (.ref v)) : fR (mk z) a ci k = some v := by
  unfold fR
  rw [rd_gF h hz hv]
theorem rd_fO {v : Option Nat} (h : shp[a]? = some g) (hz : zc z g = .inr (ci, fs)) (hv : fs[k]? = some (va_rf v)) : fO (mk z) a ci k = some v := by
  unfold fO
  rw [rd_gF h hz hv]
  cases v <;> rfl
theorem rd_isC (h : shp[a]? = some g) (hz : zc z g = .inr (ci, fs)) : isC (mk z) a ci = true := by
  unfold isC
  rw [mk_get h, hz]
  simp
theorem wr_F {v : Value} (h : shp[a]? = some g) (hz : zc z g = .inr (ci, fs)) (hk : k < fs.length) (h1 : ∀ g', g' ≠ g → zc z' g' = zc z g') (h2 : zc z' g = .inr (ci, fs.set k v)) : pF (mk z) a ci k v = some (mk z') := by
  unfold pF
  rw [mk_get h, hz]
  dsimp only
  rw [if_pos ⟨rfl, hk⟩, mk_set h h1 h2]
theorem rd_aI {t : Nat} {f : Nat → Int32} {i : Int} (h : shp[a]? = some g) (hz : zc z g = .inl (t, n, .inl f)) (h0 : 0 ≤ i) (h1 : i < n) (hn : n ≤ 2147483648) : aI t (mk z) a (I i) = some (f i.toNat) := by
  unfold aI
  rw [mk_get h, hz]
  dsimp only
  rw [if_pos ⟨rfl, I_in h0 h1 hn⟩, I_nat (by omega) (by omega)]
theorem rd_aJ {f : Nat → Int64} {i : Int} (h : shp[a]? = some g) (hz : zc z g = .inl (1, n, .inr (.inl f))) (h0 : 0 ≤ i) (h1 : i < n) (hn : n ≤ 2147483648) : aJ (mk z) a (I i) = some (f i.toNat) := by
  unfold aJ
  rw [mk_get h, hz]
  dsimp only
  rw [if_pos ⟨rfl, I_in h0 h1 hn⟩, I_nat (by omega) (by omega)]
theorem rd_aR {t : Nat} {f : Nat → Option Nat} {i : Int} (h : shp[a]? = some g) (hz : zc z g = .inl (t, n, .inr (.inr (.inr (.inr f))))) (ht : 4 ≤ t ∧ t < 10) (h0 : 0 ≤ i) (h1 : i < n) (hn : n ≤ 2147483648) : aR (mk z) a (I i) = f i.toNat := by
  unfold aR
  rw [mk_get h, hz]
  dsimp only
  rw [if_pos ⟨ht, I_in h0 h1 hn⟩, I_nat (by omega) (by omega)]
theorem rd_aN {x : (Nat → Int32) ⊕ (Nat → Int64) ⊕ (Nat → UInt32) ⊕ (Nat → UInt64) ⊕ (Nat → Option Nat)} {t : Nat} (h : shp[a]? = some g) (hz : zc z g = .inl (t, n, x)) (ht : t < 10) : aN (mk z) a = some (I n) := by
  unfold aN
  rw [mk_get h, hz]
  dsimp only
  rw [if_pos ht]
  rfl
theorem wr_sI {t : Nat} {f : Nat → Int32} {i : Int} {x : Int32} (h : shp[a]? = some g) (hz : zc z g = .inl (t, n, .inl f)) (h0 : 0 ≤ i) (h1 : i < n) (hn : n ≤ 2147483648) (h2 : ∀ g', g' ≠ g → zc z' g' = zc z g') (h3 : zc z' g = .inl (t, n, .inl (upd f i.toNat (nrT t x)))) : sI t (mk z) a (I i) x = some (mk z') := by
  unfold sI
  rw [mk_get h, hz]
  dsimp only
  rw [if_pos ⟨rfl, I_in h0 h1 hn⟩, I_nat (by omega) (by omega), mk_set h h2 h3]
theorem wr_sJ {f : Nat → Int64} {i : Int} {x : Int64} (h : shp[a]? = some g) (hz : zc z g = .inl (1, n, .inr (.inl f))) (h0 : 0 ≤ i) (h1 : i < n) (hn : n ≤ 2147483648) (h2 : ∀ g', g' ≠ g → zc z' g' = zc z g') (h3 : zc z' g = .inl (1, n, .inr (.inl (vp_updL f i.toNat x)))) : sJ (mk z) a (I i) x = some (mk z') := by
  unfold sJ
  rw [mk_get h, hz]
  dsimp only
  rw [if_pos ⟨rfl, I_in h0 h1 hn⟩, I_nat (by omega) (by omega), mk_set h h2 h3]
theorem wr_sR {t q : Nat} {f : Nat → Option Nat} {g2 : TZ} {i : Int} (h : shp[a]? = some g) (hz : zc z g = .inl (t, n, .inr (.inr (.inr (.inr f))))) (hq : shp[q]? = some g2) (hz2 : zc z g2 = .inr (ci, fs)) (ht : 4 ≤ t ∧ t < 10 ∧ tcl t = ci) (h0 : 0 ≤ i) (h1 : i < n) (hn : n ≤ 2147483648) (h2 : ∀ g', g' ≠ g → zc z' g' = zc z g') (h3 : zc z' g = .inl (t, n, .inr (.inr (.inr (.inr (va_up f i.toNat (some q))))))) : sR (mk z) a (I i) q = some (mk z') := by
  unfold sR
  rw [mk_get h, mk_get hq, hz, hz2]
  dsimp only
  rw [if_pos ⟨ht, I_in h0 h1 hn⟩, I_nat (by omega) (by omega), mk_set h h2 h3]
end
def isText (a : Nat) : Prop := shp[a]? = some (.tx .o a)
instance (a : Nat) : Decidable (isText a) := inferInstanceAs (Decidable (_ = _))
theorem alText {P : Nat → Prop} [DecidablePred P] (hp : shp.all (fun g => match g with | .tx .o a => decide (P a) | _ => true) = true) {a : Nat} (h : isText a) : P a := by
  have := List.all_eq_true.mp hp _ (List.mem_of_getElem? h)
  simpa using this
def isProg (a : Nat) : Prop := shp[a]? = some (.pg .o a)
instance (a : Nat) : Decidable (isProg a) := inferInstanceAs (Decidable (_ = _))
theorem alProg {P : Nat → Prop} [DecidablePred P] (hp : shp.all (fun g => match g with | .pg .o a => decide (P a) | _ => true) = true) {a : Nat} (h : isProg a) : P a := by
  have := List.all_eq_true.mp hp _ (List.mem_of_getElem? h)
  simpa using this
def isLearnt (a : Nat) : Prop := shp[a]? = some (.le .o a)
instance (a : Nat) : Decidable (isLearnt a) := inferInstanceAs (Decidable (_ = _))
theorem alLearnt {P : Nat → Prop} [DecidablePred P] (hp : shp.all (fun g => match g with | .le .o a => decide (P a) | _ => true) = true) {a : Nat} (h : isLearnt a) : P a := by
  have := List.all_eq_true.mp hp _ (List.mem_of_getElem? h)
  simpa using this
def isLine (a : Nat) : Prop := shp[a]? = some (.ln .o a)
instance (a : Nat) : Decidable (isLine a) := inferInstanceAs (Decidable (_ = _))
theorem alLine {P : Nat → Prop} [DecidablePred P] (hp : shp.all (fun g => match g with | .ln .o a => decide (P a) | _ => true) = true) {a : Nat} (h : isLine a) : P a := by
  have := List.all_eq_true.mp hp _ (List.mem_of_getElem? h)
  simpa using this
def isTask (a : Nat) : Prop := shp[a]? = some (.tk .o a)
instance (a : Nat) : Decidable (isTask a) := inferInstanceAs (Decidable (_ = _))
theorem alTask {P : Nat → Prop} [DecidablePred P] (hp : shp.all (fun g => match g with | .tk .o a => decide (P a) | _ => true) = true) {a : Nat} (h : isTask a) : P a := by
  have := List.all_eq_true.mp hp _ (List.mem_of_getElem? h)
  simpa using this
def isBoard (a : Nat) : Prop := shp[a]? = some (.bd .o a)
instance (a : Nat) : Decidable (isBoard a) := inferInstanceAs (Decidable (_ = _))
theorem alBoard {P : Nat → Prop} [DecidablePred P] (hp : shp.all (fun g => match g with | .bd .o a => decide (P a) | _ => true) = true) {a : Nat} (h : isBoard a) : P a := by
  have := List.all_eq_true.mp hp _ (List.mem_of_getElem? h)
  simpa using this
theorem tgText_signs {a : Nat} (h : isText a) : shp[aText_signs a]? = some (.tx .f_signs a) := alText (P := fun a => shp[aText_signs a]? = some (.tx .f_signs a)) (by decide +kernel) h
theorem tgText_placesOf {a : Nat} (h : isText a) : shp[aText_placesOf a]? = some (.tx .f_placesOf a) := alText (P := fun a => shp[aText_placesOf a]? = some (.tx .f_placesOf a)) (by decide +kernel) h
theorem tgProg_atoms {a : Nat} (h : isProg a) : shp[aProg_atoms a]? = some (.pg .f_atoms a) := alProg (P := fun a => shp[aProg_atoms a]? = some (.pg .f_atoms a)) (by decide +kernel) h
theorem tgLine_steps {a : Nat} (h : isLine a) : shp[aLine_steps a]? = some (.ln .f_steps a) := alLine (P := fun a => shp[aLine_steps a]? = some (.ln .f_steps a)) (by decide +kernel) h
theorem tgTask_was {a : Nat} (h : isTask a) : shp[aTask_was a]? = some (.tk .f_was a) := alTask (P := fun a => shp[aTask_was a]? = some (.tk .f_was a)) (by decide +kernel) h
theorem tgTask_shown {a : Nat} (h : isTask a) : shp[aTask_shown a]? = some (.tk .f_shown a) := alTask (P := fun a => shp[aTask_shown a]? = some (.tk .f_shown a)) (by decide +kernel) h
theorem tgTask_lineOf {a : Nat} (h : isTask a) : shp[aTask_lineOf a]? = some (.tk .f_lineOf a) := alTask (P := fun a => shp[aTask_lineOf a]? = some (.tk .f_lineOf a)) (by decide +kernel) h
theorem tgTask_refusedOf {a : Nat} (h : isTask a) : shp[aTask_refusedOf a]? = some (.tk .f_refusedOf a) := alTask (P := fun a => shp[aTask_refusedOf a]? = some (.tk .f_refusedOf a)) (by decide +kernel) h
theorem tgTask_refused {a : Nat} (h : isTask a) : shp[aTask_refused a]? = some (.tk .f_refused a) := alTask (P := fun a => shp[aTask_refused a]? = some (.tk .f_refused a)) (by decide +kernel) h
theorem tgTask_pins {a : Nat} (h : isTask a) : shp[aTask_pins a]? = some (.tk .f_pins a) := alTask (P := fun a => shp[aTask_pins a]? = some (.tk .f_pins a)) (by decide +kernel) h
theorem tgTask_best {a : Nat} (h : isTask a) : shp[aTask_best a]? = some (.tk .f_best a) := alTask (P := fun a => shp[aTask_best a]? = some (.tk .f_best a)) (by decide +kernel) h
theorem tgBoard_spots {a : Nat} (h : isBoard a) : shp[aBoard_spots a]? = some (.bd .f_spots a) := alBoard (P := fun a => shp[aBoard_spots a]? = some (.bd .f_spots a)) (by decide +kernel) h
theorem tgBoard_placesOfSign {a : Nat} (h : isBoard a) : shp[aBoard_placesOfSign a]? = some (.bd .f_placesOfSign a) := alBoard (P := fun a => shp[aBoard_placesOfSign a]? = some (.bd .f_placesOfSign a)) (by decide +kernel) h
theorem tgBoard_cutPlaces {a : Nat} (h : isBoard a) : shp[aBoard_cutPlaces a]? = some (.bd .f_cutPlaces a) := alBoard (P := fun a => shp[aBoard_cutPlaces a]? = some (.bd .f_cutPlaces a)) (by decide +kernel) h
theorem tgBoard_eachPlaces {a : Nat} (h : isBoard a) : shp[aBoard_eachPlaces a]? = some (.bd .f_eachPlaces a) := alBoard (P := fun a => shp[aBoard_eachPlaces a]? = some (.bd .f_eachPlaces a)) (by decide +kernel) h
theorem tgBoard_eachSizes {a : Nat} (h : isBoard a) : shp[aBoard_eachSizes a]? = some (.bd .f_eachSizes a) := alBoard (P := fun a => shp[aBoard_eachSizes a]? = some (.bd .f_eachSizes a)) (by decide +kernel) h
theorem tgFinder_found : shp[aFinder_found]? = some (.fi .f_found) := by decide +kernel
theorem tgFinder_pins : shp[aFinder_pins]? = some (.fi .f_pins) := by decide +kernel
theorem tgFinder_pinIndexes : shp[aFinder_pinIndexes]? = some (.fi .f_pinIndexes) := by decide +kernel
theorem tgFinder_ways : shp[aFinder_ways]? = some (.fi .f_ways) := by decide +kernel
theorem tgFinder_knownKeys : shp[aFinder_knownKeys]? = some (.fi .f_knownKeys) := by decide +kernel
theorem tgFinder_knownEndings : shp[aFinder_knownEndings]? = some (.fi .f_knownEndings) := by decide +kernel
theorem tgFinder_at_ : shp[aFinder_at_]? = some (.fi .f_at_) := by decide +kernel
theorem tgFinder_row : shp[aFinder_row]? = some (.fi .f_row) := by decide +kernel
theorem tgFinder : shp[aFinder]? = some (.fi .o) := by decide +kernel
theorem tgStock_boards : shp[aStock_boards]? = some (.st .f_boards) := by decide +kernel
theorem tgStock_members : shp[aStock_members]? = some (.st .f_members) := by decide +kernel
theorem tgStock_atoms : shp[aStock_atoms]? = some (.st .f_atoms) := by decide +kernel
theorem tgStock_weights : shp[aStock_weights]? = some (.st .f_weights) := by decide +kernel
theorem tgStock_places : shp[aStock_places]? = some (.st .f_places) := by decide +kernel
theorem tgStock_sizes : shp[aStock_sizes]? = some (.st .f_sizes) := by decide +kernel
theorem tgStock_shared : shp[aStock_shared]? = some (.st .f_shared) := by decide +kernel
theorem tgStock_groups : shp[aStock_groups]? = some (.st .f_groups) := by decide +kernel
theorem tgStock_groupWeights : shp[aStock_groupWeights]? = some (.st .f_groupWeights) := by decide +kernel
theorem tgStock_newest : shp[aStock_newest]? = some (.st .f_newest) := by decide +kernel
theorem tgStock_older : shp[aStock_older]? = some (.st .f_older) := by decide +kernel
theorem tgStock : shp[aStock]? = some (.st .o) := by decide +kernel
theorem tgLearner_chosen : shp[aLearner_chosen]? = some (.lr .f_chosen) := by decide +kernel
theorem tgLearner_tried : shp[aLearner_tried]? = some (.lr .f_tried) := by decide +kernel
theorem tgLearner : shp[aLearner]? = some (.lr .o) := by decide +kernel
theorem tgScript_tasks : shp[aScript_tasks]? = some (.sc .f_tasks) := by decide +kernel
theorem tgScript_lines : shp[aScript_lines]? = some (.sc .f_lines) := by decide +kernel
theorem tgScript_ranBy : shp[aScript_ranBy]? = some (.sc .f_ranBy) := by decide +kernel
theorem tgScript_runCounts : shp[aScript_runCounts]? = some (.sc .f_runCounts) := by decide +kernel
theorem tgScript : shp[aScript]? = some (.sc .o) := by decide +kernel
theorem tgModel_draft : shp[aModel_draft]? = some (.ma 2) := by decide +kernel
theorem tgModel_came : shp[aModel_came]? = some (.ma 4) := by decide +kernel
theorem tgModel_cameSize : shp[aModel_cameSize]? = some (.ma 5) := by decide +kernel
theorem tgModel_steps : shp[aModel_steps]? = some (.ma 6) := by decide +kernel
theorem tgModel_step : shp[aModel_step]? = some (.ma 7) := by decide +kernel
theorem tgModel_examples : shp[aModel_examples]? = some (.ma 8) := by decide +kernel
theorem tgModel_shownOn : shp[aModel_shownOn]? = some (.ma 9) := by decide +kernel
theorem tgModel_example_ : shp[aModel_example_]? = some (.ma 10) := by decide +kernel
theorem tgModel_exampleSize : shp[aModel_exampleSize]? = some (.ma 11) := by decide +kernel
theorem tgModel_shown : shp[aModel_shown]? = some (.ma 12) := by decide +kernel
theorem tgModel_shownSize : shp[aModel_shownSize]? = some (.ma 13) := by decide +kernel
theorem tgModel_refusals : shp[aModel_refusals]? = some (.ma 14) := by decide +kernel
theorem tgModel_refusal : shp[aModel_refusal]? = some (.ma 15) := by decide +kernel
theorem tgModel_refusalSize : shp[aModel_refusalSize]? = some (.ma 16) := by decide +kernel
theorem tgModel_refused : shp[aModel_refused]? = some (.ma 17) := by decide +kernel
theorem tgModel_refusedSize : shp[aModel_refusedSize]? = some (.ma 18) := by decide +kernel
theorem tgModel_pinKind : shp[aModel_pinKind]? = some (.ma 19) := by decide +kernel
theorem tgModel_pinA : shp[aModel_pinA]? = some (.ma 20) := by decide +kernel
theorem tgModel_pinB : shp[aModel_pinB]? = some (.ma 21) := by decide +kernel
theorem tgModel_pinC : shp[aModel_pinC]? = some (.ma 22) := by decide +kernel
theorem tgModel_pinSign : shp[aModel_pinSign]? = some (.ma 23) := by decide +kernel
theorem tgModel_hasLearnt : shp[aModel_hasLearnt]? = some (.ma 24) := by decide +kernel
theorem tgModel_conditionOf : shp[aModel_conditionOf]? = some (.ma 25) := by decide +kernel
theorem tgModel_isStanding : shp[aModel_isStanding]? = some (.ma 26) := by decide +kernel
theorem tgModel_isUndone : shp[aModel_isUndone]? = some (.ma 28) := by decide +kernel
theorem tgModel_runCondition : shp[aModel_runCondition]? = some (.ma 29) := by decide +kernel
theorem tgModel_atoms : shp[aModel_atoms]? = some (.ma 31) := by decide +kernel
theorem tgModel_weightOf : shp[aModel_weightOf]? = some (.ma 32) := by decide +kernel
theorem tgModel_kind : shp[aModel_kind]? = some (.ma 33) := by decide +kernel
theorem tgModel_a : shp[aModel_a]? = some (.ma 34) := by decide +kernel
theorem tgModel_b : shp[aModel_b]? = some (.ma 35) := by decide +kernel
theorem tgModel_c : shp[aModel_c]? = some (.ma 36) := by decide +kernel
theorem tgModel_sign : shp[aModel_sign]? = some (.ma 37) := by decide +kernel
theorem tgModel_setState : shp[aModel_setState]? = some (.ma 39) := by decide +kernel
theorem tgModel_text : shp[aModel_text]? = some (.ma 41) := by decide +kernel
theorem tgModel_runsOf : shp[aModel_runsOf]? = some (.ma 42) := by decide +kernel
theorem tgModel_runAt : shp[aModel_runAt]? = some (.ma 43) := by decide +kernel
theorem tgModel_runEnd : shp[aModel_runEnd]? = some (.ma 44) := by decide +kernel
theorem tgModel_making : shp[aModel_making]? = some (.ma 46) := by decide +kernel
theorem tgModel_constSign : shp[aModel_constSign]? = some (.ma 48) := by decide +kernel
theorem tgModel_constSize : shp[aModel_constSize]? = some (.ma 49) := by decide +kernel
theorem tgModel_match_ : shp[aModel_match_]? = some (.ma 51) := by decide +kernel
theorem tgModel_length : shp[aModel_length]? = some (.ma 52) := by decide +kernel
theorem tgModel_weight : shp[aModel_weight]? = some (.ma 53) := by decide +kernel
theorem tgModel_valid : shp[aModel_valid]? = some (.ma 55) := by decide +kernel
theorem tgModel_in_ : shp[aModel_in_]? = some (.ma 58) := by decide +kernel
theorem tgModel_stride : shp[aModel_stride]? = some (.ma 59) := by decide +kernel
theorem tgModel_radix : shp[aModel_radix]? = some (.ma 60) := by decide +kernel
theorem tgModel_one : shp[aModel_one]? = some (.ma 62) := by decide +kernel
theorem tgModel_two : shp[aModel_two]? = some (.ma 63) := by decide +kernel
theorem tgModel_mark : shp[aModel_mark]? = some (.ma 64) := by decide +kernel
theorem tgModel_three : shp[aModel_three]? = some (.ml) := by decide +kernel
theorem tgModel_pinned : shp[aModel_pinned]? = some (.ma 67) := by decide +kernel
theorem tgModel_at_ : shp[aModel_at_]? = some (.ma 68) := by decide +kernel
theorem tgModel_chosen : shp[aModel_chosen]? = some (.ma 69) := by decide +kernel
theorem tgModel_left : shp[aModel_left]? = some (.ma 70) := by decide +kernel
theorem tgModel_found : shp[aModel_found]? = some (.ma 71) := by decide +kernel
theorem tgModel_foundWeight : shp[aModel_foundWeight]? = some (.ma 72) := by decide +kernel
theorem tgModel_foundAtom : shp[aModel_foundAtom]? = some (.ma 73) := by decide +kernel
theorem tgModel_taken : shp[aModel_taken]? = some (.ma 74) := by decide +kernel
theorem tgModel_other : shp[aModel_other]? = some (.ma 75) := by decide +kernel
theorem tgModel : shp[aModel]? = some (.mo) := by decide +kernel
theorem tgOut : shp[632]? = some .out := by decide +kernel
abbrev aOut : Nat := 632
theorem is_Learnt_first {a : Nat} (h : isLearnt a) : isProg (aLearnt_first a) := alLearnt (P := fun a => isProg (aLearnt_first a)) (by decide +kernel) h
theorem is_Learnt_second {a : Nat} (h : isLearnt a) : isProg (aLearnt_second a) := alLearnt (P := fun a => isProg (aLearnt_second a)) (by decide +kernel) h
theorem is_Line_came {a : Nat} (h : isLine a) : isText (aLine_came a) := alLine (P := fun a => isText (aLine_came a)) (by decide +kernel) h
theorem is_Line_now {a : Nat} (h : isLine a) : isText (aLine_now a) := alLine (P := fun a => isText (aLine_now a)) (by decide +kernel) h
theorem is_eTask_was {a i : Nat} (h : isTask a) (hi : i < 4) : isText (eTask_was a i) := alTask (P := fun a => ∀ i, i < 4 → isText (eTask_was a i)) (by decide +kernel) h i hi
theorem is_eTask_shown {a i : Nat} (h : isTask a) (hi : i < 4) : isText (eTask_shown a i) := alTask (P := fun a => ∀ i, i < 4 → isText (eTask_shown a i)) (by decide +kernel) h i hi
theorem is_eTask_refusedOf {a i : Nat} (h : isTask a) (hi : i < 4) : isText (eTask_refusedOf a i) := alTask (P := fun a => ∀ i, i < 4 → isText (eTask_refusedOf a i)) (by decide +kernel) h i hi
theorem is_eTask_refused {a i : Nat} (h : isTask a) (hi : i < 4) : isText (eTask_refused a i) := alTask (P := fun a => ∀ i, i < 4 → isText (eTask_refused a i)) (by decide +kernel) h i hi
theorem is_Task_learnt {a : Nat} (h : isTask a) : isLearnt (aTask_learnt a) := alTask (P := fun a => isLearnt (aTask_learnt a)) (by decide +kernel) h
theorem is_eTask_best {a i : Nat} (h : isTask a) (hi : i < 5) : isProg (eTask_best a i) := alTask (P := fun a => ∀ i, i < 5 → isProg (eTask_best a i)) (by decide +kernel) h i hi
theorem is_Board_was {a : Nat} (h : isBoard a) : isText (aBoard_was a) := alBoard (P := fun a => isText (aBoard_was a)) (by decide +kernel) h
theorem is_Board_shown {a : Nat} (h : isBoard a) : isText (aBoard_shown a) := alBoard (P := fun a => isText (aBoard_shown a)) (by decide +kernel) h
theorem is_Board_made {a : Nat} (h : isBoard a) : isText (aBoard_made a) := alBoard (P := fun a => isText (aBoard_made a)) (by decide +kernel) h
theorem is_eFinder_found {i : Nat} (hi : i < 5) : isProg (eFinder_found i) := (by decide +kernel : ∀ i, i < 5 → isProg (eFinder_found i)) i hi
theorem is_eStock_boards {i : Nat} (hi : i < 4) : isBoard (eStock_boards i) := (by decide +kernel : ∀ i, i < 4 → isBoard (eStock_boards i)) i hi
theorem is_eLearner_chosen {i : Nat} (hi : i < 16) : isProg (eLearner_chosen i) := (by decide +kernel : ∀ i, i < 16 → isProg (eLearner_chosen i)) i hi
theorem is_Learner_made : isText aLearner_made := by decide +kernel
theorem is_Learner_madeFirst : isText aLearner_madeFirst := by decide +kernel
theorem is_Script_draft : isText aScript_draft := by decide +kernel
theorem is_Script_made : isText aScript_made := by decide +kernel
theorem is_eScript_tasks {i : Nat} (hi : i < 3) : isTask (eScript_tasks i) := (by decide +kernel : ∀ i, i < 3 → isTask (eScript_tasks i)) i hi
theorem is_eScript_lines {i : Nat} (hi : i < 8) : isLine (eScript_lines i) := (by decide +kernel : ∀ i, i < 8 → isLine (eScript_lines i)) i hi
theorem is_eScript_ranBy {i : Nat} (hi : i < 30) : isLearnt (eScript_ranBy i) := (by decide +kernel : ∀ i, i < 30 → isLearnt (eScript_ranBy i)) i hi
theorem ne_mi {z : Z} {w : Nat → Int32} : ∀ g', g' ≠ .mo → zc { z with mi := w } g' = zc z g' := by
  intro g' hg
  cases g' <;> first | rfl | exact absurd rfl hg
theorem ne_ml {z : Z} {w : Nat → Int64} : ∀ g', g' ≠ .ml → zc { z with ml := w } g' = zc z g' := by
  intro g' hg
  cases g' <;> first | rfl | exact absurd rfl hg
theorem ne_ma {z : Z} {k : Nat} {w : Nat → Int32} : ∀ g', g' ≠ .ma k → zc { z with ma := up z.ma k w } g' = zc z g' := by
  intro g' hg
  cases g' with
  | ma k' =>
    have hk : k' ≠ k := fun q => hg (by rw [q])
    show (.inl (mT k', mN k', .inl (up z.ma k w k')) : cE) = .inl (mT k', mN k', .inl (z.ma k'))
    unfold up
    rw [if_neg hk]
  | _ => rfl
theorem eq_ma {z : Z} {k : Nat} {w : Nat → Int32} : zc { z with ma := up z.ma k w } (.ma k) = .inl (mT k, mN k, .inl w) := by
  show (.inl (mT k, mN k, .inl (up z.ma k w k)) : cE) = _
  unfold up
  rw [if_pos rfl]
theorem ne_tx {z : Z} {a : Nat} {w : ZText} {t : TZText} (h : ∀ t', t' ≠ t → zZText w a t' = zZText (z.tx a) a t') : ∀ g', g' ≠ .tx t a → zc { z with tx := up z.tx a w } g' = zc z g' := by
  intro g' hg
  cases g' with
  | tx t' b =>
    by_cases hb : b = a
    · subst hb
      show zZText (up z.tx b w b) b t' = _
      unfold up
      rw [if_pos rfl]
      exact h t' (fun q => hg (by rw [q]))
    · show zZText (up z.tx a w b) b t' = _
      unfold up
      rw [if_neg hb]
      rfl
  | _ => rfl
theorem eq_tx {z : Z} {a : Nat} {w : ZText} {t : TZText} : zc { z with tx := up z.tx a w } (.tx t a) = zZText w a t := by
  show zZText (up z.tx a w a) a t = _
  unfold up
  rw [if_pos rfl]
theorem ne_pg {z : Z} {a : Nat} {w : ZProg} {t : TZProg} (h : ∀ t', t' ≠ t → zZProg w a t' = zZProg (z.pg a) a t') : ∀ g', g' ≠ .pg t a → zc { z with pg := up z.pg a w } g' = zc z g' := by
  intro g' hg
  cases g' with
  | pg t' b =>
    by_cases hb : b = a
    · subst hb
      show zZProg (up z.pg b w b) b t' = _
      unfold up
      rw [if_pos rfl]
      exact h t' (fun q => hg (by rw [q]))
    · show zZProg (up z.pg a w b) b t' = _
      unfold up
      rw [if_neg hb]
      rfl
  | _ => rfl
theorem eq_pg {z : Z} {a : Nat} {w : ZProg} {t : TZProg} : zc { z with pg := up z.pg a w } (.pg t a) = zZProg w a t := by
  show zZProg (up z.pg a w a) a t = _
  unfold up
  rw [if_pos rfl]
theorem ne_le {z : Z} {a : Nat} {w : ZLearnt} {t : TZLearnt} (h : ∀ t', t' ≠ t → zZLearnt w a t' = zZLearnt (z.le a) a t') : ∀ g', g' ≠ .le t a → zc { z with le := up z.le a w } g' = zc z g' := by
  intro g' hg
  cases g' with
  | le t' b =>
    by_cases hb : b = a
    · subst hb
      show zZLearnt (up z.le b w b) b t' = _
      unfold up
      rw [if_pos rfl]
      exact h t' (fun q => hg (by rw [q]))
    · show zZLearnt (up z.le a w b) b t' = _
      unfold up
      rw [if_neg hb]
      rfl
  | _ => rfl
theorem eq_le {z : Z} {a : Nat} {w : ZLearnt} {t : TZLearnt} : zc { z with le := up z.le a w } (.le t a) = zZLearnt w a t := by
  show zZLearnt (up z.le a w a) a t = _
  unfold up
  rw [if_pos rfl]
theorem ne_ln {z : Z} {a : Nat} {w : ZLine} {t : TZLine} (h : ∀ t', t' ≠ t → zZLine w a t' = zZLine (z.ln a) a t') : ∀ g', g' ≠ .ln t a → zc { z with ln := up z.ln a w } g' = zc z g' := by
  intro g' hg
  cases g' with
  | ln t' b =>
    by_cases hb : b = a
    · subst hb
      show zZLine (up z.ln b w b) b t' = _
      unfold up
      rw [if_pos rfl]
      exact h t' (fun q => hg (by rw [q]))
    · show zZLine (up z.ln a w b) b t' = _
      unfold up
      rw [if_neg hb]
      rfl
  | _ => rfl
theorem eq_ln {z : Z} {a : Nat} {w : ZLine} {t : TZLine} : zc { z with ln := up z.ln a w } (.ln t a) = zZLine w a t := by
  show zZLine (up z.ln a w a) a t = _
  unfold up
  rw [if_pos rfl]
theorem ne_tk {z : Z} {a : Nat} {w : ZTask} {t : TZTask} (h : ∀ t', t' ≠ t → zZTask w a t' = zZTask (z.tk a) a t') : ∀ g', g' ≠ .tk t a → zc { z with tk := up z.tk a w } g' = zc z g' := by
  intro g' hg
  cases g' with
  | tk t' b =>
    by_cases hb : b = a
    · subst hb
      show zZTask (up z.tk b w b) b t' = _
      unfold up
      rw [if_pos rfl]
      exact h t' (fun q => hg (by rw [q]))
    · show zZTask (up z.tk a w b) b t' = _
      unfold up
      rw [if_neg hb]
      rfl
  | _ => rfl
theorem eq_tk {z : Z} {a : Nat} {w : ZTask} {t : TZTask} : zc { z with tk := up z.tk a w } (.tk t a) = zZTask w a t := by
  show zZTask (up z.tk a w a) a t = _
  unfold up
  rw [if_pos rfl]
theorem ne_bd {z : Z} {a : Nat} {w : ZBoard} {t : TZBoard} (h : ∀ t', t' ≠ t → zZBoard w a t' = zZBoard (z.bd a) a t') : ∀ g', g' ≠ .bd t a → zc { z with bd := up z.bd a w } g' = zc z g' := by
  intro g' hg
  cases g' with
  | bd t' b =>
    by_cases hb : b = a
    · subst hb
      show zZBoard (up z.bd b w b) b t' = _
      unfold up
      rw [if_pos rfl]
      exact h t' (fun q => hg (by rw [q]))
    · show zZBoard (up z.bd a w b) b t' = _
      unfold up
      rw [if_neg hb]
      rfl
  | _ => rfl
theorem eq_bd {z : Z} {a : Nat} {w : ZBoard} {t : TZBoard} : zc { z with bd := up z.bd a w } (.bd t a) = zZBoard w a t := by
  show zZBoard (up z.bd a w a) a t = _
  unfold up
  rw [if_pos rfl]
theorem ne_fi {z : Z} {w : ZFinder} {t : TZFinder} (h : ∀ t', t' ≠ t → zZFinder w t' = zZFinder z.fi t') : ∀ g', g' ≠ .fi t → zc { z with fi := w } g' = zc z g' := by
  intro g' hg
  cases g' with
  | fi t' => exact h t' (fun q => hg (by rw [q]))
  | _ => rfl
theorem ne_st {z : Z} {w : ZStock} {t : TZStock} (h : ∀ t', t' ≠ t → zZStock w t' = zZStock z.st t') : ∀ g', g' ≠ .st t → zc { z with st := w } g' = zc z g' := by
  intro g' hg
  cases g' with
  | st t' => exact h t' (fun q => hg (by rw [q]))
  | _ => rfl
theorem ne_lr {z : Z} {w : ZLearner} {t : TZLearner} (h : ∀ t', t' ≠ t → zZLearner w t' = zZLearner z.lr t') : ∀ g', g' ≠ .lr t → zc { z with lr := w } g' = zc z g' := by
  intro g' hg
  cases g' with
  | lr t' => exact h t' (fun q => hg (by rw [q]))
  | _ => rfl
theorem ne_sc {z : Z} {w : ZScript} {t : TZScript} (h : ∀ t', t' ≠ t → zZScript w t' = zZScript z.sc t') : ∀ g', g' ≠ .sc t → zc { z with sc := w } g' = zc z g' := by
  intro g' hg
  cases g' with
  | sc t' => exact h t' (fun q => hg (by rw [q]))
  | _ => rfl
@[simp] theorem cModel {z : Z} : isC (mk z) aModel 10 = true := rd_isC tgModel rfl
@[simp] theorem gModel_thrown {z : Z} : fI (mk z) aModel 10 0 = some (z.mi 0) := rd_fI tgModel rfl rfl
@[simp] theorem pModel_thrown {z : Z} {v : Int32} : pF (mk z) aModel 10 0 (.int v) = some (mk { z with mi := up z.mi 0 v }) := wr_F tgModel rfl (Nat.le_of_ble_eq_true rfl) ne_mi rfl
@[simp] theorem gModel_draftSize {z : Z} : fI (mk z) aModel 10 1 = some (z.mi 1) := rd_fI tgModel rfl rfl
@[simp] theorem pModel_draftSize {z : Z} {v : Int32} : pF (mk z) aModel 10 1 (.int v) = some (mk { z with mi := up z.mi 1 v }) := wr_F tgModel rfl (Nat.le_of_ble_eq_true rfl) ne_mi rfl
@[simp] theorem gModel_draft {z : Z} : fR (mk z) aModel 10 2 = some aModel_draft := rd_fR tgModel rfl rfl
@[simp] theorem nModel_draft {z : Z} : aN (mk z) aModel_draft = some (I 20) := rd_aN tgModel_draft rfl (by decide)
@[simp] theorem rModel_draft {z : Z} {i : Int} (h0 : 0 ≤ i) (h1 : i < 20) : aI 0 (mk z) aModel_draft (I i) = some (z.ma 2 i.toNat) := rd_aI tgModel_draft rfl h0 h1 (by decide)
@[simp] theorem wModel_draft {z : Z} {i : Int} (h0 : 0 ≤ i) (h1 : i < 20) {v : Int32} : sI 0 (mk z) aModel_draft (I i) v = some (mk { z with ma := up z.ma 2 (upd (z.ma 2) i.toNat (v)) }) := wr_sI tgModel_draft rfl h0 h1 (by decide) ne_ma eq_ma
@[simp] theorem gModel_lines {z : Z} : fI (mk z) aModel 10 3 = some (z.mi 3) := rd_fI tgModel rfl rfl
@[simp] theorem pModel_lines {z : Z} {v : Int32} : pF (mk z) aModel 10 3 (.int v) = some (mk { z with mi := up z.mi 3 v }) := wr_F tgModel rfl (Nat.le_of_ble_eq_true rfl) ne_mi rfl
@[simp] theorem gModel_came {z : Z} : fR (mk z) aModel 10 4 = some aModel_came := rd_fR tgModel rfl rfl
@[simp] theorem nModel_came {z : Z} : aN (mk z) aModel_came = some (I 160) := rd_aN tgModel_came rfl (by decide)
@[simp] theorem rModel_came {z : Z} {i : Int} (h0 : 0 ≤ i) (h1 : i < 160) : aI 0 (mk z) aModel_came (I i) = some (z.ma 4 i.toNat) := rd_aI tgModel_came rfl h0 h1 (by decide)
@[simp] theorem wModel_came {z : Z} {i : Int} (h0 : 0 ≤ i) (h1 : i < 160) {v : Int32} : sI 0 (mk z) aModel_came (I i) v = some (mk { z with ma := up z.ma 4 (upd (z.ma 4) i.toNat (v)) }) := wr_sI tgModel_came rfl h0 h1 (by decide) ne_ma eq_ma
@[simp] theorem gModel_cameSize {z : Z} : fR (mk z) aModel 10 5 = some aModel_cameSize := rd_fR tgModel rfl rfl
@[simp] theorem nModel_cameSize {z : Z} : aN (mk z) aModel_cameSize = some (I 8) := rd_aN tgModel_cameSize rfl (by decide)
@[simp] theorem rModel_cameSize {z : Z} {i : Int} (h0 : 0 ≤ i) (h1 : i < 8) : aI 0 (mk z) aModel_cameSize (I i) = some (z.ma 5 i.toNat) := rd_aI tgModel_cameSize rfl h0 h1 (by decide)
@[simp] theorem wModel_cameSize {z : Z} {i : Int} (h0 : 0 ≤ i) (h1 : i < 8) {v : Int32} : sI 0 (mk z) aModel_cameSize (I i) v = some (mk { z with ma := up z.ma 5 (upd (z.ma 5) i.toNat (v)) }) := wr_sI tgModel_cameSize rfl h0 h1 (by decide) ne_ma eq_ma
@[simp] theorem gModel_steps {z : Z} : fR (mk z) aModel 10 6 = some aModel_steps := rd_fR tgModel rfl rfl
@[simp] theorem nModel_steps {z : Z} : aN (mk z) aModel_steps = some (I 8) := rd_aN tgModel_steps rfl (by decide)
@[simp] theorem rModel_steps {z : Z} {i : Int} (h0 : 0 ≤ i) (h1 : i < 8) : aI 0 (mk z) aModel_steps (I i) = some (z.ma 6 i.toNat) := rd_aI tgModel_steps rfl h0 h1 (by decide)
@[simp] theorem wModel_steps {z : Z} {i : Int} (h0 : 0 ≤ i) (h1 : i < 8) {v : Int32} : sI 0 (mk z) aModel_steps (I i) v = some (mk { z with ma := up z.ma 6 (upd (z.ma 6) i.toNat (v)) }) := wr_sI tgModel_steps rfl h0 h1 (by decide) ne_ma eq_ma
@[simp] theorem gModel_step {z : Z} : fR (mk z) aModel 10 7 = some aModel_step := rd_fR tgModel rfl rfl
@[simp] theorem nModel_step {z : Z} : aN (mk z) aModel_step = some (I 320) := rd_aN tgModel_step rfl (by decide)
@[simp] theorem rModel_step {z : Z} {i : Int} (h0 : 0 ≤ i) (h1 : i < 320) : aI 0 (mk z) aModel_step (I i) = some (z.ma 7 i.toNat) := rd_aI tgModel_step rfl h0 h1 (by decide)
@[simp] theorem wModel_step {z : Z} {i : Int} (h0 : 0 ≤ i) (h1 : i < 320) {v : Int32} : sI 0 (mk z) aModel_step (I i) v = some (mk { z with ma := up z.ma 7 (upd (z.ma 7) i.toNat (v)) }) := wr_sI tgModel_step rfl h0 h1 (by decide) ne_ma eq_ma
@[simp] theorem gModel_examples {z : Z} : fR (mk z) aModel 10 8 = some aModel_examples := rd_fR tgModel rfl rfl
@[simp] theorem nModel_examples {z : Z} : aN (mk z) aModel_examples = some (I 3) := rd_aN tgModel_examples rfl (by decide)
@[simp] theorem rModel_examples {z : Z} {i : Int} (h0 : 0 ≤ i) (h1 : i < 3) : aI 0 (mk z) aModel_examples (I i) = some (z.ma 8 i.toNat) := rd_aI tgModel_examples rfl h0 h1 (by decide)
@[simp] theorem wModel_examples {z : Z} {i : Int} (h0 : 0 ≤ i) (h1 : i < 3) {v : Int32} : sI 0 (mk z) aModel_examples (I i) v = some (mk { z with ma := up z.ma 8 (upd (z.ma 8) i.toNat (v)) }) := wr_sI tgModel_examples rfl h0 h1 (by decide) ne_ma eq_ma
@[simp] theorem gModel_shownOn {z : Z} : fR (mk z) aModel 10 9 = some aModel_shownOn := rd_fR tgModel rfl rfl
@[simp] theorem nModel_shownOn {z : Z} : aN (mk z) aModel_shownOn = some (I 12) := rd_aN tgModel_shownOn rfl (by decide)
@[simp] theorem rModel_shownOn {z : Z} {i : Int} (h0 : 0 ≤ i) (h1 : i < 12) : aI 0 (mk z) aModel_shownOn (I i) = some (z.ma 9 i.toNat) := rd_aI tgModel_shownOn rfl h0 h1 (by decide)
@[simp] theorem wModel_shownOn {z : Z} {i : Int} (h0 : 0 ≤ i) (h1 : i < 12) {v : Int32} : sI 0 (mk z) aModel_shownOn (I i) v = some (mk { z with ma := up z.ma 9 (upd (z.ma 9) i.toNat (v)) }) := wr_sI tgModel_shownOn rfl h0 h1 (by decide) ne_ma eq_ma
@[simp] theorem gModel_example_ {z : Z} : fR (mk z) aModel 10 10 = some aModel_example_ := rd_fR tgModel rfl rfl
@[simp] theorem nModel_example_ {z : Z} : aN (mk z) aModel_example_ = some (I 240) := rd_aN tgModel_example_ rfl (by decide)
@[simp] theorem rModel_example_ {z : Z} {i : Int} (h0 : 0 ≤ i) (h1 : i < 240) : aI 0 (mk z) aModel_example_ (I i) = some (z.ma 10 i.toNat) := rd_aI tgModel_example_ rfl h0 h1 (by decide)
@[simp] theorem wModel_example_ {z : Z} {i : Int} (h0 : 0 ≤ i) (h1 : i < 240) {v : Int32} : sI 0 (mk z) aModel_example_ (I i) v = some (mk { z with ma := up z.ma 10 (upd (z.ma 10) i.toNat (v)) }) := wr_sI tgModel_example_ rfl h0 h1 (by decide) ne_ma eq_ma
@[simp] theorem gModel_exampleSize {z : Z} : fR (mk z) aModel 10 11 = some aModel_exampleSize := rd_fR tgModel rfl rfl
@[simp] theorem nModel_exampleSize {z : Z} : aN (mk z) aModel_exampleSize = some (I 12) := rd_aN tgModel_exampleSize rfl (by decide)
@[simp] theorem rModel_exampleSize {z : Z} {i : Int} (h0 : 0 ≤ i) (h1 : i < 12) : aI 0 (mk z) aModel_exampleSize (I i) = some (z.ma 11 i.toNat) := rd_aI tgModel_exampleSize rfl h0 h1 (by decide)
@[simp] theorem wModel_exampleSize {z : Z} {i : Int} (h0 : 0 ≤ i) (h1 : i < 12) {v : Int32} : sI 0 (mk z) aModel_exampleSize (I i) v = some (mk { z with ma := up z.ma 11 (upd (z.ma 11) i.toNat (v)) }) := wr_sI tgModel_exampleSize rfl h0 h1 (by decide) ne_ma eq_ma
@[simp] theorem gModel_shown {z : Z} : fR (mk z) aModel 10 12 = some aModel_shown := rd_fR tgModel rfl rfl
@[simp] theorem nModel_shown {z : Z} : aN (mk z) aModel_shown = some (I 240) := rd_aN tgModel_shown rfl (by decide)
@[simp] theorem rModel_shown {z : Z} {i : Int} (h0 : 0 ≤ i) (h1 : i < 240) : aI 0 (mk z) aModel_shown (I i) = some (z.ma 12 i.toNat) := rd_aI tgModel_shown rfl h0 h1 (by decide)
@[simp] theorem wModel_shown {z : Z} {i : Int} (h0 : 0 ≤ i) (h1 : i < 240) {v : Int32} : sI 0 (mk z) aModel_shown (I i) v = some (mk { z with ma := up z.ma 12 (upd (z.ma 12) i.toNat (v)) }) := wr_sI tgModel_shown rfl h0 h1 (by decide) ne_ma eq_ma
@[simp] theorem gModel_shownSize {z : Z} : fR (mk z) aModel 10 13 = some aModel_shownSize := rd_fR tgModel rfl rfl
@[simp] theorem nModel_shownSize {z : Z} : aN (mk z) aModel_shownSize = some (I 12) := rd_aN tgModel_shownSize rfl (by decide)
@[simp] theorem rModel_shownSize {z : Z} {i : Int} (h0 : 0 ≤ i) (h1 : i < 12) : aI 0 (mk z) aModel_shownSize (I i) = some (z.ma 13 i.toNat) := rd_aI tgModel_shownSize rfl h0 h1 (by decide)
@[simp] theorem wModel_shownSize {z : Z} {i : Int} (h0 : 0 ≤ i) (h1 : i < 12) {v : Int32} : sI 0 (mk z) aModel_shownSize (I i) v = some (mk { z with ma := up z.ma 13 (upd (z.ma 13) i.toNat (v)) }) := wr_sI tgModel_shownSize rfl h0 h1 (by decide) ne_ma eq_ma
@[simp] theorem gModel_refusals {z : Z} : fR (mk z) aModel 10 14 = some aModel_refusals := rd_fR tgModel rfl rfl
@[simp] theorem nModel_refusals {z : Z} : aN (mk z) aModel_refusals = some (I 3) := rd_aN tgModel_refusals rfl (by decide)
@[simp] theorem rModel_refusals {z : Z} {i : Int} (h0 : 0 ≤ i) (h1 : i < 3) : aI 0 (mk z) aModel_refusals (I i) = some (z.ma 14 i.toNat) := rd_aI tgModel_refusals rfl h0 h1 (by decide)
@[simp] theorem wModel_refusals {z : Z} {i : Int} (h0 : 0 ≤ i) (h1 : i < 3) {v : Int32} : sI 0 (mk z) aModel_refusals (I i) v = some (mk { z with ma := up z.ma 14 (upd (z.ma 14) i.toNat (v)) }) := wr_sI tgModel_refusals rfl h0 h1 (by decide) ne_ma eq_ma
@[simp] theorem gModel_refusal {z : Z} : fR (mk z) aModel 10 15 = some aModel_refusal := rd_fR tgModel rfl rfl
@[simp] theorem nModel_refusal {z : Z} : aN (mk z) aModel_refusal = some (I 240) := rd_aN tgModel_refusal rfl (by decide)
@[simp] theorem rModel_refusal {z : Z} {i : Int} (h0 : 0 ≤ i) (h1 : i < 240) : aI 0 (mk z) aModel_refusal (I i) = some (z.ma 15 i.toNat) := rd_aI tgModel_refusal rfl h0 h1 (by decide)
@[simp] theorem wModel_refusal {z : Z} {i : Int} (h0 : 0 ≤ i) (h1 : i < 240) {v : Int32} : sI 0 (mk z) aModel_refusal (I i) v = some (mk { z with ma := up z.ma 15 (upd (z.ma 15) i.toNat (v)) }) := wr_sI tgModel_refusal rfl h0 h1 (by decide) ne_ma eq_ma
@[simp] theorem gModel_refusalSize {z : Z} : fR (mk z) aModel 10 16 = some aModel_refusalSize := rd_fR tgModel rfl rfl
@[simp] theorem nModel_refusalSize {z : Z} : aN (mk z) aModel_refusalSize = some (I 12) := rd_aN tgModel_refusalSize rfl (by decide)
@[simp] theorem rModel_refusalSize {z : Z} {i : Int} (h0 : 0 ≤ i) (h1 : i < 12) : aI 0 (mk z) aModel_refusalSize (I i) = some (z.ma 16 i.toNat) := rd_aI tgModel_refusalSize rfl h0 h1 (by decide)
@[simp] theorem wModel_refusalSize {z : Z} {i : Int} (h0 : 0 ≤ i) (h1 : i < 12) {v : Int32} : sI 0 (mk z) aModel_refusalSize (I i) v = some (mk { z with ma := up z.ma 16 (upd (z.ma 16) i.toNat (v)) }) := wr_sI tgModel_refusalSize rfl h0 h1 (by decide) ne_ma eq_ma
@[simp] theorem gModel_refused {z : Z} : fR (mk z) aModel 10 17 = some aModel_refused := rd_fR tgModel rfl rfl
@[simp] theorem nModel_refused {z : Z} : aN (mk z) aModel_refused = some (I 240) := rd_aN tgModel_refused rfl (by decide)
@[simp] theorem rModel_refused {z : Z} {i : Int} (h0 : 0 ≤ i) (h1 : i < 240) : aI 0 (mk z) aModel_refused (I i) = some (z.ma 17 i.toNat) := rd_aI tgModel_refused rfl h0 h1 (by decide)
@[simp] theorem wModel_refused {z : Z} {i : Int} (h0 : 0 ≤ i) (h1 : i < 240) {v : Int32} : sI 0 (mk z) aModel_refused (I i) v = some (mk { z with ma := up z.ma 17 (upd (z.ma 17) i.toNat (v)) }) := wr_sI tgModel_refused rfl h0 h1 (by decide) ne_ma eq_ma
@[simp] theorem gModel_refusedSize {z : Z} : fR (mk z) aModel 10 18 = some aModel_refusedSize := rd_fR tgModel rfl rfl
@[simp] theorem nModel_refusedSize {z : Z} : aN (mk z) aModel_refusedSize = some (I 12) := rd_aN tgModel_refusedSize rfl (by decide)
@[simp] theorem rModel_refusedSize {z : Z} {i : Int} (h0 : 0 ≤ i) (h1 : i < 12) : aI 0 (mk z) aModel_refusedSize (I i) = some (z.ma 18 i.toNat) := rd_aI tgModel_refusedSize rfl h0 h1 (by decide)
@[simp] theorem wModel_refusedSize {z : Z} {i : Int} (h0 : 0 ≤ i) (h1 : i < 12) {v : Int32} : sI 0 (mk z) aModel_refusedSize (I i) v = some (mk { z with ma := up z.ma 18 (upd (z.ma 18) i.toNat (v)) }) := wr_sI tgModel_refusedSize rfl h0 h1 (by decide) ne_ma eq_ma
@[simp] theorem gModel_pinKind {z : Z} : fR (mk z) aModel 10 19 = some aModel_pinKind := rd_fR tgModel rfl rfl
@[simp] theorem nModel_pinKind {z : Z} : aN (mk z) aModel_pinKind = some (I 12) := rd_aN tgModel_pinKind rfl (by decide)
@[simp] theorem rModel_pinKind {z : Z} {i : Int} (h0 : 0 ≤ i) (h1 : i < 12) : aI 0 (mk z) aModel_pinKind (I i) = some (z.ma 19 i.toNat) := rd_aI tgModel_pinKind rfl h0 h1 (by decide)
@[simp] theorem wModel_pinKind {z : Z} {i : Int} (h0 : 0 ≤ i) (h1 : i < 12) {v : Int32} : sI 0 (mk z) aModel_pinKind (I i) v = some (mk { z with ma := up z.ma 19 (upd (z.ma 19) i.toNat (v)) }) := wr_sI tgModel_pinKind rfl h0 h1 (by decide) ne_ma eq_ma
@[simp] theorem gModel_pinA {z : Z} : fR (mk z) aModel 10 20 = some aModel_pinA := rd_fR tgModel rfl rfl
@[simp] theorem nModel_pinA {z : Z} : aN (mk z) aModel_pinA = some (I 12) := rd_aN tgModel_pinA rfl (by decide)
@[simp] theorem rModel_pinA {z : Z} {i : Int} (h0 : 0 ≤ i) (h1 : i < 12) : aI 0 (mk z) aModel_pinA (I i) = some (z.ma 20 i.toNat) := rd_aI tgModel_pinA rfl h0 h1 (by decide)
@[simp] theorem wModel_pinA {z : Z} {i : Int} (h0 : 0 ≤ i) (h1 : i < 12) {v : Int32} : sI 0 (mk z) aModel_pinA (I i) v = some (mk { z with ma := up z.ma 20 (upd (z.ma 20) i.toNat (v)) }) := wr_sI tgModel_pinA rfl h0 h1 (by decide) ne_ma eq_ma
@[simp] theorem gModel_pinB {z : Z} : fR (mk z) aModel 10 21 = some aModel_pinB := rd_fR tgModel rfl rfl
@[simp] theorem nModel_pinB {z : Z} : aN (mk z) aModel_pinB = some (I 12) := rd_aN tgModel_pinB rfl (by decide)
@[simp] theorem rModel_pinB {z : Z} {i : Int} (h0 : 0 ≤ i) (h1 : i < 12) : aI 0 (mk z) aModel_pinB (I i) = some (z.ma 21 i.toNat) := rd_aI tgModel_pinB rfl h0 h1 (by decide)
@[simp] theorem wModel_pinB {z : Z} {i : Int} (h0 : 0 ≤ i) (h1 : i < 12) {v : Int32} : sI 0 (mk z) aModel_pinB (I i) v = some (mk { z with ma := up z.ma 21 (upd (z.ma 21) i.toNat (v)) }) := wr_sI tgModel_pinB rfl h0 h1 (by decide) ne_ma eq_ma
@[simp] theorem gModel_pinC {z : Z} : fR (mk z) aModel 10 22 = some aModel_pinC := rd_fR tgModel rfl rfl
@[simp] theorem nModel_pinC {z : Z} : aN (mk z) aModel_pinC = some (I 12) := rd_aN tgModel_pinC rfl (by decide)
@[simp] theorem rModel_pinC {z : Z} {i : Int} (h0 : 0 ≤ i) (h1 : i < 12) : aI 0 (mk z) aModel_pinC (I i) = some (z.ma 22 i.toNat) := rd_aI tgModel_pinC rfl h0 h1 (by decide)
@[simp] theorem wModel_pinC {z : Z} {i : Int} (h0 : 0 ≤ i) (h1 : i < 12) {v : Int32} : sI 0 (mk z) aModel_pinC (I i) v = some (mk { z with ma := up z.ma 22 (upd (z.ma 22) i.toNat (v)) }) := wr_sI tgModel_pinC rfl h0 h1 (by decide) ne_ma eq_ma
@[simp] theorem gModel_pinSign {z : Z} : fR (mk z) aModel 10 23 = some aModel_pinSign := rd_fR tgModel rfl rfl
@[simp] theorem nModel_pinSign {z : Z} : aN (mk z) aModel_pinSign = some (I 48) := rd_aN tgModel_pinSign rfl (by decide)
@[simp] theorem rModel_pinSign {z : Z} {i : Int} (h0 : 0 ≤ i) (h1 : i < 48) : aI 0 (mk z) aModel_pinSign (I i) = some (z.ma 23 i.toNat) := rd_aI tgModel_pinSign rfl h0 h1 (by decide)
@[simp] theorem wModel_pinSign {z : Z} {i : Int} (h0 : 0 ≤ i) (h1 : i < 48) {v : Int32} : sI 0 (mk z) aModel_pinSign (I i) v = some (mk { z with ma := up z.ma 23 (upd (z.ma 23) i.toNat (v)) }) := wr_sI tgModel_pinSign rfl h0 h1 (by decide) ne_ma eq_ma
@[simp] theorem gModel_hasLearnt {z : Z} : fR (mk z) aModel 10 24 = some aModel_hasLearnt := rd_fR tgModel rfl rfl
@[simp] theorem nModel_hasLearnt {z : Z} : aN (mk z) aModel_hasLearnt = some (I 3) := rd_aN tgModel_hasLearnt rfl (by decide)
@[simp] theorem rModel_hasLearnt {z : Z} {i : Int} (h0 : 0 ≤ i) (h1 : i < 3) : aI 3 (mk z) aModel_hasLearnt (I i) = some (z.ma 24 i.toNat) := rd_aI tgModel_hasLearnt rfl h0 h1 (by decide)
@[simp] theorem wModel_hasLearnt {z : Z} {i : Int} (h0 : 0 ≤ i) (h1 : i < 3) {v : Int32} : sI 3 (mk z) aModel_hasLearnt (I i) v = some (mk { z with ma := up z.ma 24 (upd (z.ma 24) i.toNat (nrT 3 v)) }) := wr_sI tgModel_hasLearnt rfl h0 h1 (by decide) ne_ma eq_ma
@[simp] theorem gModel_conditionOf {z : Z} : fR (mk z) aModel 10 25 = some aModel_conditionOf := rd_fR tgModel rfl rfl
@[simp] theorem nModel_conditionOf {z : Z} : aN (mk z) aModel_conditionOf = some (I 3) := rd_aN tgModel_conditionOf rfl (by decide)
@[simp] theorem rModel_conditionOf {z : Z} {i : Int} (h0 : 0 ≤ i) (h1 : i < 3) : aI 0 (mk z) aModel_conditionOf (I i) = some (z.ma 25 i.toNat) := rd_aI tgModel_conditionOf rfl h0 h1 (by decide)
@[simp] theorem wModel_conditionOf {z : Z} {i : Int} (h0 : 0 ≤ i) (h1 : i < 3) {v : Int32} : sI 0 (mk z) aModel_conditionOf (I i) v = some (mk { z with ma := up z.ma 25 (upd (z.ma 25) i.toNat (v)) }) := wr_sI tgModel_conditionOf rfl h0 h1 (by decide) ne_ma eq_ma
@[simp] theorem gModel_isStanding {z : Z} : fR (mk z) aModel 10 26 = some aModel_isStanding := rd_fR tgModel rfl rfl
@[simp] theorem nModel_isStanding {z : Z} : aN (mk z) aModel_isStanding = some (I 3) := rd_aN tgModel_isStanding rfl (by decide)
@[simp] theorem rModel_isStanding {z : Z} {i : Int} (h0 : 0 ≤ i) (h1 : i < 3) : aI 3 (mk z) aModel_isStanding (I i) = some (z.ma 26 i.toNat) := rd_aI tgModel_isStanding rfl h0 h1 (by decide)
@[simp] theorem wModel_isStanding {z : Z} {i : Int} (h0 : 0 ≤ i) (h1 : i < 3) {v : Int32} : sI 3 (mk z) aModel_isStanding (I i) v = some (mk { z with ma := up z.ma 26 (upd (z.ma 26) i.toNat (nrT 3 v)) }) := wr_sI tgModel_isStanding rfl h0 h1 (by decide) ne_ma eq_ma
@[simp] theorem gModel_runs {z : Z} : fI (mk z) aModel 10 27 = some (z.mi 27) := rd_fI tgModel rfl rfl
@[simp] theorem pModel_runs {z : Z} {v : Int32} : pF (mk z) aModel 10 27 (.int v) = some (mk { z with mi := up z.mi 27 v }) := wr_F tgModel rfl (Nat.le_of_ble_eq_true rfl) ne_mi rfl
@[simp] theorem gModel_isUndone {z : Z} : fR (mk z) aModel 10 28 = some aModel_isUndone := rd_fR tgModel rfl rfl
@[simp] theorem nModel_isUndone {z : Z} : aN (mk z) aModel_isUndone = some (I 30) := rd_aN tgModel_isUndone rfl (by decide)
@[simp] theorem rModel_isUndone {z : Z} {i : Int} (h0 : 0 ≤ i) (h1 : i < 30) : aI 3 (mk z) aModel_isUndone (I i) = some (z.ma 28 i.toNat) := rd_aI tgModel_isUndone rfl h0 h1 (by decide)
@[simp] theorem wModel_isUndone {z : Z} {i : Int} (h0 : 0 ≤ i) (h1 : i < 30) {v : Int32} : sI 3 (mk z) aModel_isUndone (I i) v = some (mk { z with ma := up z.ma 28 (upd (z.ma 28) i.toNat (nrT 3 v)) }) := wr_sI tgModel_isUndone rfl h0 h1 (by decide) ne_ma eq_ma
@[simp] theorem gModel_runCondition {z : Z} : fR (mk z) aModel 10 29 = some aModel_runCondition := rd_fR tgModel rfl rfl
@[simp] theorem nModel_runCondition {z : Z} : aN (mk z) aModel_runCondition = some (I 30) := rd_aN tgModel_runCondition rfl (by decide)
@[simp] theorem rModel_runCondition {z : Z} {i : Int} (h0 : 0 ≤ i) (h1 : i < 30) : aI 0 (mk z) aModel_runCondition (I i) = some (z.ma 29 i.toNat) := rd_aI tgModel_runCondition rfl h0 h1 (by decide)
@[simp] theorem wModel_runCondition {z : Z} {i : Int} (h0 : 0 ≤ i) (h1 : i < 30) {v : Int32} : sI 0 (mk z) aModel_runCondition (I i) v = some (mk { z with ma := up z.ma 29 (upd (z.ma 29) i.toNat (v)) }) := wr_sI tgModel_runCondition rfl h0 h1 (by decide) ne_ma eq_ma
@[simp] theorem gModel_askedLines {z : Z} : fI (mk z) aModel 10 30 = some (z.mi 30) := rd_fI tgModel rfl rfl
@[simp] theorem pModel_askedLines {z : Z} {v : Int32} : pF (mk z) aModel 10 30 (.int v) = some (mk { z with mi := up z.mi 30 v }) := wr_F tgModel rfl (Nat.le_of_ble_eq_true rfl) ne_mi rfl
@[simp] theorem gModel_atoms {z : Z} : fR (mk z) aModel 10 31 = some aModel_atoms := rd_fR tgModel rfl rfl
@[simp] theorem nModel_atoms {z : Z} : aN (mk z) aModel_atoms = some (I 87) := rd_aN tgModel_atoms rfl (by decide)
@[simp] theorem rModel_atoms {z : Z} {i : Int} (h0 : 0 ≤ i) (h1 : i < 87) : aI 0 (mk z) aModel_atoms (I i) = some (z.ma 31 i.toNat) := rd_aI tgModel_atoms rfl h0 h1 (by decide)
@[simp] theorem wModel_atoms {z : Z} {i : Int} (h0 : 0 ≤ i) (h1 : i < 87) {v : Int32} : sI 0 (mk z) aModel_atoms (I i) v = some (mk { z with ma := up z.ma 31 (upd (z.ma 31) i.toNat (v)) }) := wr_sI tgModel_atoms rfl h0 h1 (by decide) ne_ma eq_ma
@[simp] theorem gModel_weightOf {z : Z} : fR (mk z) aModel 10 32 = some aModel_weightOf := rd_fR tgModel rfl rfl
@[simp] theorem nModel_weightOf {z : Z} : aN (mk z) aModel_weightOf = some (I 87) := rd_aN tgModel_weightOf rfl (by decide)
@[simp] theorem rModel_weightOf {z : Z} {i : Int} (h0 : 0 ≤ i) (h1 : i < 87) : aI 0 (mk z) aModel_weightOf (I i) = some (z.ma 32 i.toNat) := rd_aI tgModel_weightOf rfl h0 h1 (by decide)
@[simp] theorem wModel_weightOf {z : Z} {i : Int} (h0 : 0 ≤ i) (h1 : i < 87) {v : Int32} : sI 0 (mk z) aModel_weightOf (I i) v = some (mk { z with ma := up z.ma 32 (upd (z.ma 32) i.toNat (v)) }) := wr_sI tgModel_weightOf rfl h0 h1 (by decide) ne_ma eq_ma
@[simp] theorem gModel_kind {z : Z} : fR (mk z) aModel 10 33 = some aModel_kind := rd_fR tgModel rfl rfl
@[simp] theorem nModel_kind {z : Z} : aN (mk z) aModel_kind = some (I 348) := rd_aN tgModel_kind rfl (by decide)
@[simp] theorem rModel_kind {z : Z} {i : Int} (h0 : 0 ≤ i) (h1 : i < 348) : aI 0 (mk z) aModel_kind (I i) = some (z.ma 33 i.toNat) := rd_aI tgModel_kind rfl h0 h1 (by decide)
@[simp] theorem wModel_kind {z : Z} {i : Int} (h0 : 0 ≤ i) (h1 : i < 348) {v : Int32} : sI 0 (mk z) aModel_kind (I i) v = some (mk { z with ma := up z.ma 33 (upd (z.ma 33) i.toNat (v)) }) := wr_sI tgModel_kind rfl h0 h1 (by decide) ne_ma eq_ma
@[simp] theorem gModel_a {z : Z} : fR (mk z) aModel 10 34 = some aModel_a := rd_fR tgModel rfl rfl
@[simp] theorem nModel_a {z : Z} : aN (mk z) aModel_a = some (I 348) := rd_aN tgModel_a rfl (by decide)
@[simp] theorem rModel_a {z : Z} {i : Int} (h0 : 0 ≤ i) (h1 : i < 348) : aI 0 (mk z) aModel_a (I i) = some (z.ma 34 i.toNat) := rd_aI tgModel_a rfl h0 h1 (by decide)
@[simp] theorem wModel_a {z : Z} {i : Int} (h0 : 0 ≤ i) (h1 : i < 348) {v : Int32} : sI 0 (mk z) aModel_a (I i) v = some (mk { z with ma := up z.ma 34 (upd (z.ma 34) i.toNat (v)) }) := wr_sI tgModel_a rfl h0 h1 (by decide) ne_ma eq_ma
@[simp] theorem gModel_b {z : Z} : fR (mk z) aModel 10 35 = some aModel_b := rd_fR tgModel rfl rfl
@[simp] theorem nModel_b {z : Z} : aN (mk z) aModel_b = some (I 348) := rd_aN tgModel_b rfl (by decide)
@[simp] theorem rModel_b {z : Z} {i : Int} (h0 : 0 ≤ i) (h1 : i < 348) : aI 0 (mk z) aModel_b (I i) = some (z.ma 35 i.toNat) := rd_aI tgModel_b rfl h0 h1 (by decide)
@[simp] theorem wModel_b {z : Z} {i : Int} (h0 : 0 ≤ i) (h1 : i < 348) {v : Int32} : sI 0 (mk z) aModel_b (I i) v = some (mk { z with ma := up z.ma 35 (upd (z.ma 35) i.toNat (v)) }) := wr_sI tgModel_b rfl h0 h1 (by decide) ne_ma eq_ma
@[simp] theorem gModel_c {z : Z} : fR (mk z) aModel 10 36 = some aModel_c := rd_fR tgModel rfl rfl
@[simp] theorem nModel_c {z : Z} : aN (mk z) aModel_c = some (I 348) := rd_aN tgModel_c rfl (by decide)
@[simp] theorem rModel_c {z : Z} {i : Int} (h0 : 0 ≤ i) (h1 : i < 348) : aI 0 (mk z) aModel_c (I i) = some (z.ma 36 i.toNat) := rd_aI tgModel_c rfl h0 h1 (by decide)
@[simp] theorem wModel_c {z : Z} {i : Int} (h0 : 0 ≤ i) (h1 : i < 348) {v : Int32} : sI 0 (mk z) aModel_c (I i) v = some (mk { z with ma := up z.ma 36 (upd (z.ma 36) i.toNat (v)) }) := wr_sI tgModel_c rfl h0 h1 (by decide) ne_ma eq_ma
@[simp] theorem gModel_sign {z : Z} : fR (mk z) aModel 10 37 = some aModel_sign := rd_fR tgModel rfl rfl
@[simp] theorem nModel_sign {z : Z} : aN (mk z) aModel_sign = some (I 1392) := rd_aN tgModel_sign rfl (by decide)
@[simp] theorem rModel_sign {z : Z} {i : Int} (h0 : 0 ≤ i) (h1 : i < 1392) : aI 0 (mk z) aModel_sign (I i) = some (z.ma 37 i.toNat) := rd_aI tgModel_sign rfl h0 h1 (by decide)
@[simp] theorem wModel_sign {z : Z} {i : Int} (h0 : 0 ≤ i) (h1 : i < 1392) {v : Int32} : sI 0 (mk z) aModel_sign (I i) v = some (mk { z with ma := up z.ma 37 (upd (z.ma 37) i.toNat (v)) }) := wr_sI tgModel_sign rfl h0 h1 (by decide) ne_ma eq_ma
@[simp] theorem gModel_counted {z : Z} : fI (mk z) aModel 10 38 = some (z.mi 38) := rd_fI tgModel rfl rfl
@[simp] theorem pModel_counted {z : Z} {v : Int32} : pF (mk z) aModel 10 38 (.int v) = some (mk { z with mi := up z.mi 38 v }) := wr_F tgModel rfl (Nat.le_of_ble_eq_true rfl) ne_mi rfl
@[simp] theorem gModel_setState {z : Z} : fR (mk z) aModel 10 39 = some aModel_setState := rd_fR tgModel rfl rfl
@[simp] theorem nModel_setState {z : Z} : aN (mk z) aModel_setState = some (I 16) := rd_aN tgModel_setState rfl (by decide)
@[simp] theorem rModel_setState {z : Z} {i : Int} (h0 : 0 ≤ i) (h1 : i < 16) : aI 0 (mk z) aModel_setState (I i) = some (z.ma 39 i.toNat) := rd_aI tgModel_setState rfl h0 h1 (by decide)
@[simp] theorem wModel_setState {z : Z} {i : Int} (h0 : 0 ≤ i) (h1 : i < 16) {v : Int32} : sI 0 (mk z) aModel_setState (I i) v = some (mk { z with ma := up z.ma 39 (upd (z.ma 39) i.toNat (v)) }) := wr_sI tgModel_setState rfl h0 h1 (by decide) ne_ma eq_ma
@[simp] theorem gModel_size {z : Z} : fI (mk z) aModel 10 40 = some (z.mi 40) := rd_fI tgModel rfl rfl
@[simp] theorem pModel_size {z : Z} {v : Int32} : pF (mk z) aModel 10 40 (.int v) = some (mk { z with mi := up z.mi 40 v }) := wr_F tgModel rfl (Nat.le_of_ble_eq_true rfl) ne_mi rfl
@[simp] theorem gModel_text {z : Z} : fR (mk z) aModel 10 41 = some aModel_text := rd_fR tgModel rfl rfl
@[simp] theorem nModel_text {z : Z} : aN (mk z) aModel_text = some (I 20) := rd_aN tgModel_text rfl (by decide)
@[simp] theorem rModel_text {z : Z} {i : Int} (h0 : 0 ≤ i) (h1 : i < 20) : aI 0 (mk z) aModel_text (I i) = some (z.ma 41 i.toNat) := rd_aI tgModel_text rfl h0 h1 (by decide)
@[simp] theorem wModel_text {z : Z} {i : Int} (h0 : 0 ≤ i) (h1 : i < 20) {v : Int32} : sI 0 (mk z) aModel_text (I i) v = some (mk { z with ma := up z.ma 41 (upd (z.ma 41) i.toNat (v)) }) := wr_sI tgModel_text rfl h0 h1 (by decide) ne_ma eq_ma
@[simp] theorem gModel_runsOf {z : Z} : fR (mk z) aModel 10 42 = some aModel_runsOf := rd_fR tgModel rfl rfl
@[simp] theorem nModel_runsOf {z : Z} : aN (mk z) aModel_runsOf = some (I 4) := rd_aN tgModel_runsOf rfl (by decide)
@[simp] theorem rModel_runsOf {z : Z} {i : Int} (h0 : 0 ≤ i) (h1 : i < 4) : aI 0 (mk z) aModel_runsOf (I i) = some (z.ma 42 i.toNat) := rd_aI tgModel_runsOf rfl h0 h1 (by decide)
@[simp] theorem wModel_runsOf {z : Z} {i : Int} (h0 : 0 ≤ i) (h1 : i < 4) {v : Int32} : sI 0 (mk z) aModel_runsOf (I i) v = some (mk { z with ma := up z.ma 42 (upd (z.ma 42) i.toNat (v)) }) := wr_sI tgModel_runsOf rfl h0 h1 (by decide) ne_ma eq_ma
@[simp] theorem gModel_runAt {z : Z} : fR (mk z) aModel 10 43 = some aModel_runAt := rd_fR tgModel rfl rfl
@[simp] theorem nModel_runAt {z : Z} : aN (mk z) aModel_runAt = some (I 44) := rd_aN tgModel_runAt rfl (by decide)
@[simp] theorem rModel_runAt {z : Z} {i : Int} (h0 : 0 ≤ i) (h1 : i < 44) : aI 0 (mk z) aModel_runAt (I i) = some (z.ma 43 i.toNat) := rd_aI tgModel_runAt rfl h0 h1 (by decide)
@[simp] theorem wModel_runAt {z : Z} {i : Int} (h0 : 0 ≤ i) (h1 : i < 44) {v : Int32} : sI 0 (mk z) aModel_runAt (I i) v = some (mk { z with ma := up z.ma 43 (upd (z.ma 43) i.toNat (v)) }) := wr_sI tgModel_runAt rfl h0 h1 (by decide) ne_ma eq_ma
@[simp] theorem gModel_runEnd {z : Z} : fR (mk z) aModel 10 44 = some aModel_runEnd := rd_fR tgModel rfl rfl
@[simp] theorem nModel_runEnd {z : Z} : aN (mk z) aModel_runEnd = some (I 44) := rd_aN tgModel_runEnd rfl (by decide)
@[simp] theorem rModel_runEnd {z : Z} {i : Int} (h0 : 0 ≤ i) (h1 : i < 44) : aI 0 (mk z) aModel_runEnd (I i) = some (z.ma 44 i.toNat) := rd_aI tgModel_runEnd rfl h0 h1 (by decide)
@[simp] theorem wModel_runEnd {z : Z} {i : Int} (h0 : 0 ≤ i) (h1 : i < 44) {v : Int32} : sI 0 (mk z) aModel_runEnd (I i) v = some (mk { z with ma := up z.ma 44 (upd (z.ma 44) i.toNat (v)) }) := wr_sI tgModel_runEnd rfl h0 h1 (by decide) ne_ma eq_ma
@[simp] theorem gModel_made {z : Z} : fI (mk z) aModel 10 45 = some (z.mi 45) := rd_fI tgModel rfl rfl
@[simp] theorem pModel_made {z : Z} {v : Int32} : pF (mk z) aModel 10 45 (.int v) = some (mk { z with mi := up z.mi 45 v }) := wr_F tgModel rfl (Nat.le_of_ble_eq_true rfl) ne_mi rfl
@[simp] theorem gModel_making {z : Z} : fR (mk z) aModel 10 46 = some aModel_making := rd_fR tgModel rfl rfl
@[simp] theorem nModel_making {z : Z} : aN (mk z) aModel_making = some (I 140) := rd_aN tgModel_making rfl (by decide)
@[simp] theorem rModel_making {z : Z} {i : Int} (h0 : 0 ≤ i) (h1 : i < 140) : aI 0 (mk z) aModel_making (I i) = some (z.ma 46 i.toNat) := rd_aI tgModel_making rfl h0 h1 (by decide)
@[simp] theorem wModel_making {z : Z} {i : Int} (h0 : 0 ≤ i) (h1 : i < 140) {v : Int32} : sI 0 (mk z) aModel_making (I i) v = some (mk { z with ma := up z.ma 46 (upd (z.ma 46) i.toNat (v)) }) := wr_sI tgModel_making rfl h0 h1 (by decide) ne_ma eq_ma
@[simp] theorem gModel_consts {z : Z} : fI (mk z) aModel 10 47 = some (z.mi 47) := rd_fI tgModel rfl rfl
@[simp] theorem pModel_consts {z : Z} {v : Int32} : pF (mk z) aModel 10 47 (.int v) = some (mk { z with mi := up z.mi 47 v }) := wr_F tgModel rfl (Nat.le_of_ble_eq_true rfl) ne_mi rfl
@[simp] theorem gModel_constSign {z : Z} : fR (mk z) aModel 10 48 = some aModel_constSign := rd_fR tgModel rfl rfl
@[simp] theorem nModel_constSign {z : Z} : aN (mk z) aModel_constSign = some (I 1200) := rd_aN tgModel_constSign rfl (by decide)
@[simp] theorem rModel_constSign {z : Z} {i : Int} (h0 : 0 ≤ i) (h1 : i < 1200) : aI 0 (mk z) aModel_constSign (I i) = some (z.ma 48 i.toNat) := rd_aI tgModel_constSign rfl h0 h1 (by decide)
@[simp] theorem wModel_constSign {z : Z} {i : Int} (h0 : 0 ≤ i) (h1 : i < 1200) {v : Int32} : sI 0 (mk z) aModel_constSign (I i) v = some (mk { z with ma := up z.ma 48 (upd (z.ma 48) i.toNat (v)) }) := wr_sI tgModel_constSign rfl h0 h1 (by decide) ne_ma eq_ma
@[simp] theorem gModel_constSize {z : Z} : fR (mk z) aModel 10 49 = some aModel_constSize := rd_fR tgModel rfl rfl
@[simp] theorem nModel_constSize {z : Z} : aN (mk z) aModel_constSize = some (I 300) := rd_aN tgModel_constSize rfl (by decide)
@[simp] theorem rModel_constSize {z : Z} {i : Int} (h0 : 0 ≤ i) (h1 : i < 300) : aI 0 (mk z) aModel_constSize (I i) = some (z.ma 49 i.toNat) := rd_aI tgModel_constSize rfl h0 h1 (by decide)
@[simp] theorem wModel_constSize {z : Z} {i : Int} (h0 : 0 ≤ i) (h1 : i < 300) {v : Int32} : sI 0 (mk z) aModel_constSize (I i) v = some (mk { z with ma := up z.ma 49 (upd (z.ma 49) i.toNat (v)) }) := wr_sI tgModel_constSize rfl h0 h1 (by decide) ne_ma eq_ma
@[simp] theorem gModel_all {z : Z} : fI (mk z) aModel 10 50 = some (z.mi 50) := rd_fI tgModel rfl rfl
@[simp] theorem pModel_all {z : Z} {v : Int32} : pF (mk z) aModel 10 50 (.int v) = some (mk { z with mi := up z.mi 50 v }) := wr_F tgModel rfl (Nat.le_of_ble_eq_true rfl) ne_mi rfl
@[simp] theorem gModel_match_ {z : Z} : fR (mk z) aModel 10 51 = some aModel_match_ := rd_fR tgModel rfl rfl
@[simp] theorem nModel_match_ {z : Z} : aN (mk z) aModel_match_ = some (I 16000) := rd_aN tgModel_match_ rfl (by decide)
@[simp] theorem rModel_match_ {z : Z} {i : Int} (h0 : 0 ≤ i) (h1 : i < 16000) : aI 0 (mk z) aModel_match_ (I i) = some (z.ma 51 i.toNat) := rd_aI tgModel_match_ rfl h0 h1 (by decide)
@[simp] theorem wModel_match_ {z : Z} {i : Int} (h0 : 0 ≤ i) (h1 : i < 16000) {v : Int32} : sI 0 (mk z) aModel_match_ (I i) v = some (mk { z with ma := up z.ma 51 (upd (z.ma 51) i.toNat (v)) }) := wr_sI tgModel_match_ rfl h0 h1 (by decide) ne_ma eq_ma
@[simp] theorem gModel_length {z : Z} : fR (mk z) aModel 10 52 = some aModel_length := rd_fR tgModel rfl rfl
@[simp] theorem nModel_length {z : Z} : aN (mk z) aModel_length = some (I 16000) := rd_aN tgModel_length rfl (by decide)
@[simp] theorem rModel_length {z : Z} {i : Int} (h0 : 0 ≤ i) (h1 : i < 16000) : aI 0 (mk z) aModel_length (I i) = some (z.ma 52 i.toNat) := rd_aI tgModel_length rfl h0 h1 (by decide)
@[simp] theorem wModel_length {z : Z} {i : Int} (h0 : 0 ≤ i) (h1 : i < 16000) {v : Int32} : sI 0 (mk z) aModel_length (I i) v = some (mk { z with ma := up z.ma 52 (upd (z.ma 52) i.toNat (v)) }) := wr_sI tgModel_length rfl h0 h1 (by decide) ne_ma eq_ma
@[simp] theorem gModel_weight {z : Z} : fR (mk z) aModel 10 53 = some aModel_weight := rd_fR tgModel rfl rfl
@[simp] theorem nModel_weight {z : Z} : aN (mk z) aModel_weight = some (I 4000) := rd_aN tgModel_weight rfl (by decide)
@[simp] theorem rModel_weight {z : Z} {i : Int} (h0 : 0 ≤ i) (h1 : i < 4000) : aI 0 (mk z) aModel_weight (I i) = some (z.ma 53 i.toNat) := rd_aI tgModel_weight rfl h0 h1 (by decide)
@[simp] theorem wModel_weight {z : Z} {i : Int} (h0 : 0 ≤ i) (h1 : i < 4000) {v : Int32} : sI 0 (mk z) aModel_weight (I i) v = some (mk { z with ma := up z.ma 53 (upd (z.ma 53) i.toNat (v)) }) := wr_sI tgModel_weight rfl h0 h1 (by decide) ne_ma eq_ma
@[simp] theorem gModel_valids {z : Z} : fI (mk z) aModel 10 54 = some (z.mi 54) := rd_fI tgModel rfl rfl
@[simp] theorem pModel_valids {z : Z} {v : Int32} : pF (mk z) aModel 10 54 (.int v) = some (mk { z with mi := up z.mi 54 v }) := wr_F tgModel rfl (Nat.le_of_ble_eq_true rfl) ne_mi rfl
@[simp] theorem gModel_valid {z : Z} : fR (mk z) aModel 10 55 = some aModel_valid := rd_fR tgModel rfl rfl
@[simp] theorem nModel_valid {z : Z} : aN (mk z) aModel_valid = some (I 4000) := rd_aN tgModel_valid rfl (by decide)
@[simp] theorem rModel_valid {z : Z} {i : Int} (h0 : 0 ≤ i) (h1 : i < 4000) : aI 0 (mk z) aModel_valid (I i) = some (z.ma 55 i.toNat) := rd_aI tgModel_valid rfl h0 h1 (by decide)
@[simp] theorem wModel_valid {z : Z} {i : Int} (h0 : 0 ≤ i) (h1 : i < 4000) {v : Int32} : sI 0 (mk z) aModel_valid (I i) v = some (mk { z with ma := up z.ma 55 (upd (z.ma 55) i.toNat (v)) }) := wr_sI tgModel_valid rfl h0 h1 (by decide) ne_ma eq_ma
@[simp] theorem gModel_task {z : Z} : fI (mk z) aModel 10 56 = some (z.mi 56) := rd_fI tgModel rfl rfl
@[simp] theorem pModel_task {z : Z} {v : Int32} : pF (mk z) aModel 10 56 (.int v) = some (mk { z with mi := up z.mi 56 v }) := wr_F tgModel rfl (Nat.le_of_ble_eq_true rfl) ne_mi rfl
@[simp] theorem gModel_many {z : Z} : fI (mk z) aModel 10 57 = some (z.mi 57) := rd_fI tgModel rfl rfl
@[simp] theorem pModel_many {z : Z} {v : Int32} : pF (mk z) aModel 10 57 (.int v) = some (mk { z with mi := up z.mi 57 v }) := wr_F tgModel rfl (Nat.le_of_ble_eq_true rfl) ne_mi rfl
@[simp] theorem gModel_in_ {z : Z} : fR (mk z) aModel 10 58 = some aModel_in_ := rd_fR tgModel rfl rfl
@[simp] theorem nModel_in_ {z : Z} : aN (mk z) aModel_in_ = some (I 4) := rd_aN tgModel_in_ rfl (by decide)
@[simp] theorem rModel_in_ {z : Z} {i : Int} (h0 : 0 ≤ i) (h1 : i < 4) : aI 0 (mk z) aModel_in_ (I i) = some (z.ma 58 i.toNat) := rd_aI tgModel_in_ rfl h0 h1 (by decide)
@[simp] theorem wModel_in_ {z : Z} {i : Int} (h0 : 0 ≤ i) (h1 : i < 4) {v : Int32} : sI 0 (mk z) aModel_in_ (I i) v = some (mk { z with ma := up z.ma 58 (upd (z.ma 58) i.toNat (v)) }) := wr_sI tgModel_in_ rfl h0 h1 (by decide) ne_ma eq_ma
@[simp] theorem gModel_stride {z : Z} : fR (mk z) aModel 10 59 = some aModel_stride := rd_fR tgModel rfl rfl
@[simp] theorem nModel_stride {z : Z} : aN (mk z) aModel_stride = some (I 4) := rd_aN tgModel_stride rfl (by decide)
@[simp] theorem rModel_stride {z : Z} {i : Int} (h0 : 0 ≤ i) (h1 : i < 4) : aI 0 (mk z) aModel_stride (I i) = some (z.ma 59 i.toNat) := rd_aI tgModel_stride rfl h0 h1 (by decide)
@[simp] theorem wModel_stride {z : Z} {i : Int} (h0 : 0 ≤ i) (h1 : i < 4) {v : Int32} : sI 0 (mk z) aModel_stride (I i) v = some (mk { z with ma := up z.ma 59 (upd (z.ma 59) i.toNat (v)) }) := wr_sI tgModel_stride rfl h0 h1 (by decide) ne_ma eq_ma
@[simp] theorem gModel_radix {z : Z} : fR (mk z) aModel 10 60 = some aModel_radix := rd_fR tgModel rfl rfl
@[simp] theorem nModel_radix {z : Z} : aN (mk z) aModel_radix = some (I 4) := rd_aN tgModel_radix rfl (by decide)
@[simp] theorem rModel_radix {z : Z} {i : Int} (h0 : 0 ≤ i) (h1 : i < 4) : aI 0 (mk z) aModel_radix (I i) = some (z.ma 60 i.toNat) := rd_aI tgModel_radix rfl h0 h1 (by decide)
@[simp] theorem wModel_radix {z : Z} {i : Int} (h0 : 0 ≤ i) (h1 : i < 4) {v : Int32} : sI 0 (mk z) aModel_radix (I i) v = some (mk { z with ma := up z.ma 60 (upd (z.ma 60) i.toNat (v)) }) := wr_sI tgModel_radix rfl h0 h1 (by decide) ne_ma eq_ma
@[simp] theorem gModel_codes {z : Z} : fI (mk z) aModel 10 61 = some (z.mi 61) := rd_fI tgModel rfl rfl
@[simp] theorem pModel_codes {z : Z} {v : Int32} : pF (mk z) aModel 10 61 (.int v) = some (mk { z with mi := up z.mi 61 v }) := wr_F tgModel rfl (Nat.le_of_ble_eq_true rfl) ne_mi rfl
@[simp] theorem gModel_one {z : Z} : fR (mk z) aModel 10 62 = some aModel_one := rd_fR tgModel rfl rfl
@[simp] theorem nModel_one {z : Z} : aN (mk z) aModel_one = some (I 194481) := rd_aN tgModel_one rfl (by decide)
@[simp] theorem rModel_one {z : Z} {i : Int} (h0 : 0 ≤ i) (h1 : i < 194481) : aI 0 (mk z) aModel_one (I i) = some (z.ma 62 i.toNat) := rd_aI tgModel_one rfl h0 h1 (by decide)
@[simp] theorem wModel_one {z : Z} {i : Int} (h0 : 0 ≤ i) (h1 : i < 194481) {v : Int32} : sI 0 (mk z) aModel_one (I i) v = some (mk { z with ma := up z.ma 62 (upd (z.ma 62) i.toNat (v)) }) := wr_sI tgModel_one rfl h0 h1 (by decide) ne_ma eq_ma
@[simp] theorem gModel_two {z : Z} : fR (mk z) aModel 10 63 = some aModel_two := rd_fR tgModel rfl rfl
@[simp] theorem nModel_two {z : Z} : aN (mk z) aModel_two = some (I 194481) := rd_aN tgModel_two rfl (by decide)
@[simp] theorem rModel_two {z : Z} {i : Int} (h0 : 0 ≤ i) (h1 : i < 194481) : aI 0 (mk z) aModel_two (I i) = some (z.ma 63 i.toNat) := rd_aI tgModel_two rfl h0 h1 (by decide)
@[simp] theorem wModel_two {z : Z} {i : Int} (h0 : 0 ≤ i) (h1 : i < 194481) {v : Int32} : sI 0 (mk z) aModel_two (I i) v = some (mk { z with ma := up z.ma 63 (upd (z.ma 63) i.toNat (v)) }) := wr_sI tgModel_two rfl h0 h1 (by decide) ne_ma eq_ma
@[simp] theorem gModel_mark {z : Z} : fR (mk z) aModel 10 64 = some aModel_mark := rd_fR tgModel rfl rfl
@[simp] theorem nModel_mark {z : Z} : aN (mk z) aModel_mark = some (I 194481) := rd_aN tgModel_mark rfl (by decide)
@[simp] theorem rModel_mark {z : Z} {i : Int} (h0 : 0 ≤ i) (h1 : i < 194481) : aI 0 (mk z) aModel_mark (I i) = some (z.ma 64 i.toNat) := rd_aI tgModel_mark rfl h0 h1 (by decide)
@[simp] theorem wModel_mark {z : Z} {i : Int} (h0 : 0 ≤ i) (h1 : i < 194481) {v : Int32} : sI 0 (mk z) aModel_mark (I i) v = some (mk { z with ma := up z.ma 64 (upd (z.ma 64) i.toNat (v)) }) := wr_sI tgModel_mark rfl h0 h1 (by decide) ne_ma eq_ma
@[simp] theorem gModel_threes {z : Z} : fI (mk z) aModel 10 65 = some (z.mi 65) := rd_fI tgModel rfl rfl
@[simp] theorem pModel_threes {z : Z} {v : Int32} : pF (mk z) aModel 10 65 (.int v) = some (mk { z with mi := up z.mi 65 v }) := wr_F tgModel rfl (Nat.le_of_ble_eq_true rfl) ne_mi rfl
@[simp] theorem gModel_three {z : Z} : fR (mk z) aModel 10 66 = some aModel_three := rd_fR tgModel rfl rfl
@[simp] theorem nModel_three {z : Z} : aN (mk z) aModel_three = some (I 4000) := rd_aN tgModel_three rfl (by decide)
@[simp] theorem rModel_three {z : Z} {i : Int} (h0 : 0 ≤ i) (h1 : i < 4000) : aJ (mk z) aModel_three (I i) = some (z.ml i.toNat) := rd_aJ tgModel_three rfl h0 h1 (by decide)
@[simp] theorem wModel_three {z : Z} {i : Int} (h0 : 0 ≤ i) (h1 : i < 4000) {v : Int64} : sJ (mk z) aModel_three (I i) v = some (mk { z with ml := vp_updL z.ml i.toNat v }) := wr_sJ tgModel_three rfl h0 h1 (by decide) ne_ml rfl
@[simp] theorem gModel_pinned {z : Z} : fR (mk z) aModel 10 67 = some aModel_pinned := rd_fR tgModel rfl rfl
@[simp] theorem nModel_pinned {z : Z} : aN (mk z) aModel_pinned = some (I 4) := rd_aN tgModel_pinned rfl (by decide)
@[simp] theorem rModel_pinned {z : Z} {i : Int} (h0 : 0 ≤ i) (h1 : i < 4) : aI 0 (mk z) aModel_pinned (I i) = some (z.ma 67 i.toNat) := rd_aI tgModel_pinned rfl h0 h1 (by decide)
@[simp] theorem wModel_pinned {z : Z} {i : Int} (h0 : 0 ≤ i) (h1 : i < 4) {v : Int32} : sI 0 (mk z) aModel_pinned (I i) v = some (mk { z with ma := up z.ma 67 (upd (z.ma 67) i.toNat (v)) }) := wr_sI tgModel_pinned rfl h0 h1 (by decide) ne_ma eq_ma
@[simp] theorem gModel_at_ {z : Z} : fR (mk z) aModel 10 68 = some aModel_at_ := rd_fR tgModel rfl rfl
@[simp] theorem nModel_at_ {z : Z} : aN (mk z) aModel_at_ = some (I 20) := rd_aN tgModel_at_ rfl (by decide)
@[simp] theorem rModel_at_ {z : Z} {i : Int} (h0 : 0 ≤ i) (h1 : i < 20) : aI 0 (mk z) aModel_at_ (I i) = some (z.ma 68 i.toNat) := rd_aI tgModel_at_ rfl h0 h1 (by decide)
@[simp] theorem wModel_at_ {z : Z} {i : Int} (h0 : 0 ≤ i) (h1 : i < 20) {v : Int32} : sI 0 (mk z) aModel_at_ (I i) v = some (mk { z with ma := up z.ma 68 (upd (z.ma 68) i.toNat (v)) }) := wr_sI tgModel_at_ rfl h0 h1 (by decide) ne_ma eq_ma
@[simp] theorem gModel_chosen {z : Z} : fR (mk z) aModel 10 69 = some aModel_chosen := rd_fR tgModel rfl rfl
@[simp] theorem nModel_chosen {z : Z} : aN (mk z) aModel_chosen = some (I 4) := rd_aN tgModel_chosen rfl (by decide)
@[simp] theorem rModel_chosen {z : Z} {i : Int} (h0 : 0 ≤ i) (h1 : i < 4) : aI 0 (mk z) aModel_chosen (I i) = some (z.ma 69 i.toNat) := rd_aI tgModel_chosen rfl h0 h1 (by decide)
@[simp] theorem wModel_chosen {z : Z} {i : Int} (h0 : 0 ≤ i) (h1 : i < 4) {v : Int32} : sI 0 (mk z) aModel_chosen (I i) v = some (mk { z with ma := up z.ma 69 (upd (z.ma 69) i.toNat (v)) }) := wr_sI tgModel_chosen rfl h0 h1 (by decide) ne_ma eq_ma
@[simp] theorem gModel_left {z : Z} : fR (mk z) aModel 10 70 = some aModel_left := rd_fR tgModel rfl rfl
@[simp] theorem nModel_left {z : Z} : aN (mk z) aModel_left = some (I 5) := rd_aN tgModel_left rfl (by decide)
@[simp] theorem rModel_left {z : Z} {i : Int} (h0 : 0 ≤ i) (h1 : i < 5) : aI 0 (mk z) aModel_left (I i) = some (z.ma 70 i.toNat) := rd_aI tgModel_left rfl h0 h1 (by decide)
@[simp] theorem wModel_left {z : Z} {i : Int} (h0 : 0 ≤ i) (h1 : i < 5) {v : Int32} : sI 0 (mk z) aModel_left (I i) v = some (mk { z with ma := up z.ma 70 (upd (z.ma 70) i.toNat (v)) }) := wr_sI tgModel_left rfl h0 h1 (by decide) ne_ma eq_ma
@[simp] theorem gModel_found {z : Z} : fR (mk z) aModel 10 71 = some aModel_found := rd_fR tgModel rfl rfl
@[simp] theorem nModel_found {z : Z} : aN (mk z) aModel_found = some (I 5) := rd_aN tgModel_found rfl (by decide)
@[simp] theorem rModel_found {z : Z} {i : Int} (h0 : 0 ≤ i) (h1 : i < 5) : aI 0 (mk z) aModel_found (I i) = some (z.ma 71 i.toNat) := rd_aI tgModel_found rfl h0 h1 (by decide)
@[simp] theorem wModel_found {z : Z} {i : Int} (h0 : 0 ≤ i) (h1 : i < 5) {v : Int32} : sI 0 (mk z) aModel_found (I i) v = some (mk { z with ma := up z.ma 71 (upd (z.ma 71) i.toNat (v)) }) := wr_sI tgModel_found rfl h0 h1 (by decide) ne_ma eq_ma
@[simp] theorem gModel_foundWeight {z : Z} : fR (mk z) aModel 10 72 = some aModel_foundWeight := rd_fR tgModel rfl rfl
@[simp] theorem nModel_foundWeight {z : Z} : aN (mk z) aModel_foundWeight = some (I 25) := rd_aN tgModel_foundWeight rfl (by decide)
@[simp] theorem rModel_foundWeight {z : Z} {i : Int} (h0 : 0 ≤ i) (h1 : i < 25) : aI 0 (mk z) aModel_foundWeight (I i) = some (z.ma 72 i.toNat) := rd_aI tgModel_foundWeight rfl h0 h1 (by decide)
@[simp] theorem wModel_foundWeight {z : Z} {i : Int} (h0 : 0 ≤ i) (h1 : i < 25) {v : Int32} : sI 0 (mk z) aModel_foundWeight (I i) v = some (mk { z with ma := up z.ma 72 (upd (z.ma 72) i.toNat (v)) }) := wr_sI tgModel_foundWeight rfl h0 h1 (by decide) ne_ma eq_ma
@[simp] theorem gModel_foundAtom {z : Z} : fR (mk z) aModel 10 73 = some aModel_foundAtom := rd_fR tgModel rfl rfl
@[simp] theorem nModel_foundAtom {z : Z} : aN (mk z) aModel_foundAtom = some (I 100) := rd_aN tgModel_foundAtom rfl (by decide)
@[simp] theorem rModel_foundAtom {z : Z} {i : Int} (h0 : 0 ≤ i) (h1 : i < 100) : aI 0 (mk z) aModel_foundAtom (I i) = some (z.ma 73 i.toNat) := rd_aI tgModel_foundAtom rfl h0 h1 (by decide)
@[simp] theorem wModel_foundAtom {z : Z} {i : Int} (h0 : 0 ≤ i) (h1 : i < 100) {v : Int32} : sI 0 (mk z) aModel_foundAtom (I i) v = some (mk { z with ma := up z.ma 73 (upd (z.ma 73) i.toNat (v)) }) := wr_sI tgModel_foundAtom rfl h0 h1 (by decide) ne_ma eq_ma
@[simp] theorem gModel_taken {z : Z} : fR (mk z) aModel 10 74 = some aModel_taken := rd_fR tgModel rfl rfl
@[simp] theorem nModel_taken {z : Z} : aN (mk z) aModel_taken = some (I 5) := rd_aN tgModel_taken rfl (by decide)
@[simp] theorem rModel_taken {z : Z} {i : Int} (h0 : 0 ≤ i) (h1 : i < 5) : aI 0 (mk z) aModel_taken (I i) = some (z.ma 74 i.toNat) := rd_aI tgModel_taken rfl h0 h1 (by decide)
@[simp] theorem wModel_taken {z : Z} {i : Int} (h0 : 0 ≤ i) (h1 : i < 5) {v : Int32} : sI 0 (mk z) aModel_taken (I i) v = some (mk { z with ma := up z.ma 74 (upd (z.ma 74) i.toNat (v)) }) := wr_sI tgModel_taken rfl h0 h1 (by decide) ne_ma eq_ma
@[simp] theorem gModel_other {z : Z} : fR (mk z) aModel 10 75 = some aModel_other := rd_fR tgModel rfl rfl
@[simp] theorem nModel_other {z : Z} : aN (mk z) aModel_other = some (I 20) := rd_aN tgModel_other rfl (by decide)
@[simp] theorem rModel_other {z : Z} {i : Int} (h0 : 0 ≤ i) (h1 : i < 20) : aI 0 (mk z) aModel_other (I i) = some (z.ma 75 i.toNat) := rd_aI tgModel_other rfl h0 h1 (by decide)
@[simp] theorem wModel_other {z : Z} {i : Int} (h0 : 0 ≤ i) (h1 : i < 20) {v : Int32} : sI 0 (mk z) aModel_other (I i) v = some (mk { z with ma := up z.ma 75 (upd (z.ma 75) i.toNat (v)) }) := wr_sI tgModel_other rfl h0 h1 (by decide) ne_ma eq_ma
@[simp] theorem cText {z : Z} {a : Nat} (h : isText a) : isC (mk z) a 8 = true := rd_isC h rfl
@[simp] theorem gText_signs {z : Z} {a : Nat} (h : isText a) : fR (mk z) a 8 0 = some (aText_signs a) := rd_fR h rfl rfl
@[simp] theorem nText_signs {z : Z} {a : Nat} (h : isText a) : aN (mk z) (aText_signs a) = some (I 20) := rd_aN (tgText_signs h) rfl (by decide)
@[simp] theorem rText_signs {z : Z} {a : Nat} (h : isText a) {i : Int} (h0 : 0 ≤ i) (h1 : i < 20) : aI 2 (mk z) (aText_signs a) (I i) = some ((z.tx a).signs i.toNat) := rd_aI (tgText_signs h) rfl h0 h1 (by decide)
@[simp] theorem wText_signs {z : Z} {a : Nat} (h : isText a) {i : Int} (h0 : 0 ≤ i) (h1 : i < 20) {v : Int32} : sI 2 (mk z) (aText_signs a) (I i) v = some (mk { z with tx := up z.tx a { z.tx a with signs := upd (z.tx a).signs i.toNat (nrT 2 v) } }) := wr_sI (tgText_signs h) rfl h0 h1 (by decide) (ne_tx (fun t' ht => by cases t' <;> first | rfl | exact absurd rfl ht)) eq_tx
@[simp] theorem gText_placesOf {z : Z} {a : Nat} (h : isText a) : fR (mk z) a 8 1 = some (aText_placesOf a) := rd_fR h rfl rfl
@[simp] theorem nText_placesOf {z : Z} {a : Nat} (h : isText a) : aN (mk z) (aText_placesOf a) = some (I 4) := rd_aN (tgText_placesOf h) rfl (by decide)
@[simp] theorem rText_placesOf {z : Z} {a : Nat} (h : isText a) {i : Int} (h0 : 0 ≤ i) (h1 : i < 4) : aI 0 (mk z) (aText_placesOf a) (I i) = some ((z.tx a).placesOf i.toNat) := rd_aI (tgText_placesOf h) rfl h0 h1 (by decide)
@[simp] theorem wText_placesOf {z : Z} {a : Nat} (h : isText a) {i : Int} (h0 : 0 ≤ i) (h1 : i < 4) {v : Int32} : sI 0 (mk z) (aText_placesOf a) (I i) v = some (mk { z with tx := up z.tx a { z.tx a with placesOf := upd (z.tx a).placesOf i.toNat (v) } }) := wr_sI (tgText_placesOf h) rfl h0 h1 (by decide) (ne_tx (fun t' ht => by cases t' <;> first | rfl | exact absurd rfl ht)) eq_tx
@[simp] theorem gText_size {z : Z} {a : Nat} (h : isText a) : fI (mk z) a 8 2 = some (z.tx a).size := rd_fI h rfl rfl
@[simp] theorem pText_size {z : Z} {a : Nat} (h : isText a) {v : Int32} : pF (mk z) a 8 2 (.int v) = some (mk { z with tx := up z.tx a { z.tx a with size := v } }) := wr_F h rfl (Nat.le_of_ble_eq_true rfl) (ne_tx (fun t' ht => by cases t' <;> first | rfl | exact absurd rfl ht)) eq_tx
@[simp] theorem cProg {z : Z} {a : Nat} (h : isProg a) : isC (mk z) a 5 = true := rd_isC h rfl
@[simp] theorem gProg_atoms {z : Z} {a : Nat} (h : isProg a) : fR (mk z) a 5 0 = some (aProg_atoms a) := rd_fR h rfl rfl
@[simp] theorem nProg_atoms {z : Z} {a : Nat} (h : isProg a) : aN (mk z) (aProg_atoms a) = some (I 4) := rd_aN (tgProg_atoms h) rfl (by decide)
@[simp] theorem rProg_atoms {z : Z} {a : Nat} (h : isProg a) {i : Int} (h0 : 0 ≤ i) (h1 : i < 4) : aI 0 (mk z) (aProg_atoms a) (I i) = some ((z.pg a).atoms i.toNat) := rd_aI (tgProg_atoms h) rfl h0 h1 (by decide)
@[simp] theorem wProg_atoms {z : Z} {a : Nat} (h : isProg a) {i : Int} (h0 : 0 ≤ i) (h1 : i < 4) {v : Int32} : sI 0 (mk z) (aProg_atoms a) (I i) v = some (mk { z with pg := up z.pg a { z.pg a with atoms := upd (z.pg a).atoms i.toNat (v) } }) := wr_sI (tgProg_atoms h) rfl h0 h1 (by decide) (ne_pg (fun t' ht => by cases t' <;> first | rfl | exact absurd rfl ht)) eq_pg
@[simp] theorem gProg_size {z : Z} {a : Nat} (h : isProg a) : fI (mk z) a 5 1 = some (z.pg a).size := rd_fI h rfl rfl
@[simp] theorem pProg_size {z : Z} {a : Nat} (h : isProg a) {v : Int32} : pF (mk z) a 5 1 (.int v) = some (mk { z with pg := up z.pg a { z.pg a with size := v } }) := wr_F h rfl (Nat.le_of_ble_eq_true rfl) (ne_pg (fun t' ht => by cases t' <;> first | rfl | exact absurd rfl ht)) eq_pg
@[simp] theorem cLearnt {z : Z} {a : Nat} (h : isLearnt a) : isC (mk z) a 3 = true := rd_isC h rfl
@[simp] theorem gLearnt_first {z : Z} {a : Nat} (h : isLearnt a) : fR (mk z) a 3 0 = some (aLearnt_first a) := rd_fR h rfl rfl
@[simp] theorem gLearnt_second {z : Z} {a : Nat} (h : isLearnt a) : fR (mk z) a 3 1 = some (aLearnt_second a) := rd_fR h rfl rfl
@[simp] theorem gLearnt_any {z : Z} {a : Nat} (h : isLearnt a) : fI (mk z) a 3 2 = some (z.le a).any := rd_fI h rfl rfl
@[simp] theorem pLearnt_any {z : Z} {a : Nat} (h : isLearnt a) {v : Int32} : pF (mk z) a 3 2 (.int v) = some (mk { z with le := up z.le a { z.le a with any := v } }) := wr_F h rfl (Nat.le_of_ble_eq_true rfl) (ne_le (fun t' ht => by cases t' <;> first | rfl | exact absurd rfl ht)) eq_le
@[simp] theorem gLearnt_parting {z : Z} {a : Nat} (h : isLearnt a) : fI (mk z) a 3 3 = some (z.le a).parting := rd_fI h rfl rfl
@[simp] theorem pLearnt_parting {z : Z} {a : Nat} (h : isLearnt a) {v : Int32} : pF (mk z) a 3 3 (.int v) = some (mk { z with le := up z.le a { z.le a with parting := v } }) := wr_F h rfl (Nat.le_of_ble_eq_true rfl) (ne_le (fun t' ht => by cases t' <;> first | rfl | exact absurd rfl ht)) eq_le
@[simp] theorem cLine {z : Z} {a : Nat} (h : isLine a) : isC (mk z) a 4 = true := rd_isC h rfl
@[simp] theorem gLine_came {z : Z} {a : Nat} (h : isLine a) : fR (mk z) a 4 0 = some (aLine_came a) := rd_fR h rfl rfl
@[simp] theorem gLine_now {z : Z} {a : Nat} (h : isLine a) : fR (mk z) a 4 1 = some (aLine_now a) := rd_fR h rfl rfl
@[simp] theorem gLine_steps {z : Z} {a : Nat} (h : isLine a) : fR (mk z) a 4 2 = some (aLine_steps a) := rd_fR h rfl rfl
@[simp] theorem nLine_steps {z : Z} {a : Nat} (h : isLine a) : aN (mk z) (aLine_steps a) = some (I 33) := rd_aN (tgLine_steps h) rfl (by decide)
@[simp] theorem rLine_steps {z : Z} {a : Nat} (h : isLine a) {i : Int} (h0 : 0 ≤ i) (h1 : i < 33) : aI 0 (mk z) (aLine_steps a) (I i) = some ((z.ln a).steps i.toNat) := rd_aI (tgLine_steps h) rfl h0 h1 (by decide)
@[simp] theorem wLine_steps {z : Z} {a : Nat} (h : isLine a) {i : Int} (h0 : 0 ≤ i) (h1 : i < 33) {v : Int32} : sI 0 (mk z) (aLine_steps a) (I i) v = some (mk { z with ln := up z.ln a { z.ln a with steps := upd (z.ln a).steps i.toNat (v) } }) := wr_sI (tgLine_steps h) rfl h0 h1 (by decide) (ne_ln (fun t' ht => by cases t' <;> first | rfl | exact absurd rfl ht)) eq_ln
@[simp] theorem gLine_stepCount {z : Z} {a : Nat} (h : isLine a) : fI (mk z) a 4 3 = some (z.ln a).stepCount := rd_fI h rfl rfl
@[simp] theorem pLine_stepCount {z : Z} {a : Nat} (h : isLine a) {v : Int32} : pF (mk z) a 4 3 (.int v) = some (mk { z with ln := up z.ln a { z.ln a with stepCount := v } }) := wr_F h rfl (Nat.le_of_ble_eq_true rfl) (ne_ln (fun t' ht => by cases t' <;> first | rfl | exact absurd rfl ht)) eq_ln
@[simp] theorem cTask {z : Z} {a : Nat} (h : isTask a) : isC (mk z) a 7 = true := rd_isC h rfl
@[simp] theorem gTask_was {z : Z} {a : Nat} (h : isTask a) : fR (mk z) a 7 0 = some (aTask_was a) := rd_fR h rfl rfl
@[simp] theorem nTask_was {z : Z} {a : Nat} (h : isTask a) : aN (mk z) (aTask_was a) = some (I 4) := rd_aN (tgTask_was h) rfl (by decide)
@[simp] theorem rTask_was {z : Z} {a : Nat} (h : isTask a) {i : Int} (h0 : 0 ≤ i) (h1 : i < 4) : aR (mk z) (aTask_was a) (I i) = some (eTask_was a i.toNat) := (rd_aR (tgTask_was h) rfl (by decide) h0 h1 (by decide)).trans (if_pos (by omega))
@[simp] theorem gTask_shown {z : Z} {a : Nat} (h : isTask a) : fR (mk z) a 7 1 = some (aTask_shown a) := rd_fR h rfl rfl
@[simp] theorem nTask_shown {z : Z} {a : Nat} (h : isTask a) : aN (mk z) (aTask_shown a) = some (I 4) := rd_aN (tgTask_shown h) rfl (by decide)
@[simp] theorem rTask_shown {z : Z} {a : Nat} (h : isTask a) {i : Int} (h0 : 0 ≤ i) (h1 : i < 4) : aR (mk z) (aTask_shown a) (I i) = some (eTask_shown a i.toNat) := (rd_aR (tgTask_shown h) rfl (by decide) h0 h1 (by decide)).trans (if_pos (by omega))
@[simp] theorem gTask_lineOf {z : Z} {a : Nat} (h : isTask a) : fR (mk z) a 7 2 = some (aTask_lineOf a) := rd_fR h rfl rfl
@[simp] theorem nTask_lineOf {z : Z} {a : Nat} (h : isTask a) : aN (mk z) (aTask_lineOf a) = some (I 4) := rd_aN (tgTask_lineOf h) rfl (by decide)
@[simp] theorem rTask_lineOf {z : Z} {a : Nat} (h : isTask a) {i : Int} (h0 : 0 ≤ i) (h1 : i < 4) : aI 0 (mk z) (aTask_lineOf a) (I i) = some ((z.tk a).lineOf i.toNat) := rd_aI (tgTask_lineOf h) rfl h0 h1 (by decide)
@[simp] theorem wTask_lineOf {z : Z} {a : Nat} (h : isTask a) {i : Int} (h0 : 0 ≤ i) (h1 : i < 4) {v : Int32} : sI 0 (mk z) (aTask_lineOf a) (I i) v = some (mk { z with tk := up z.tk a { z.tk a with lineOf := upd (z.tk a).lineOf i.toNat (v) } }) := wr_sI (tgTask_lineOf h) rfl h0 h1 (by decide) (ne_tk (fun t' ht => by cases t' <;> first | rfl | exact absurd rfl ht)) eq_tk
@[simp] theorem gTask_examples {z : Z} {a : Nat} (h : isTask a) : fI (mk z) a 7 3 = some (z.tk a).examples := rd_fI h rfl rfl
@[simp] theorem pTask_examples {z : Z} {a : Nat} (h : isTask a) {v : Int32} : pF (mk z) a 7 3 (.int v) = some (mk { z with tk := up z.tk a { z.tk a with examples := v } }) := wr_F h rfl (Nat.le_of_ble_eq_true rfl) (ne_tk (fun t' ht => by cases t' <;> first | rfl | exact absurd rfl ht)) eq_tk
@[simp] theorem gTask_refusedOf {z : Z} {a : Nat} (h : isTask a) : fR (mk z) a 7 4 = some (aTask_refusedOf a) := rd_fR h rfl rfl
@[simp] theorem nTask_refusedOf {z : Z} {a : Nat} (h : isTask a) : aN (mk z) (aTask_refusedOf a) = some (I 4) := rd_aN (tgTask_refusedOf h) rfl (by decide)
@[simp] theorem rTask_refusedOf {z : Z} {a : Nat} (h : isTask a) {i : Int} (h0 : 0 ≤ i) (h1 : i < 4) : aR (mk z) (aTask_refusedOf a) (I i) = some (eTask_refusedOf a i.toNat) := (rd_aR (tgTask_refusedOf h) rfl (by decide) h0 h1 (by decide)).trans (if_pos (by omega))
@[simp] theorem gTask_refused {z : Z} {a : Nat} (h : isTask a) : fR (mk z) a 7 5 = some (aTask_refused a) := rd_fR h rfl rfl
@[simp] theorem nTask_refused {z : Z} {a : Nat} (h : isTask a) : aN (mk z) (aTask_refused a) = some (I 4) := rd_aN (tgTask_refused h) rfl (by decide)
@[simp] theorem rTask_refused {z : Z} {a : Nat} (h : isTask a) {i : Int} (h0 : 0 ≤ i) (h1 : i < 4) : aR (mk z) (aTask_refused a) (I i) = some (eTask_refused a i.toNat) := (rd_aR (tgTask_refused h) rfl (by decide) h0 h1 (by decide)).trans (if_pos (by omega))
@[simp] theorem gTask_refusals {z : Z} {a : Nat} (h : isTask a) : fI (mk z) a 7 6 = some (z.tk a).refusals := rd_fI h rfl rfl
@[simp] theorem pTask_refusals {z : Z} {a : Nat} (h : isTask a) {v : Int32} : pF (mk z) a 7 6 (.int v) = some (mk { z with tk := up z.tk a { z.tk a with refusals := v } }) := wr_F h rfl (Nat.le_of_ble_eq_true rfl) (ne_tk (fun t' ht => by cases t' <;> first | rfl | exact absurd rfl ht)) eq_tk
@[simp] theorem gTask_pins {z : Z} {a : Nat} (h : isTask a) : fR (mk z) a 7 7 = some (aTask_pins a) := rd_fR h rfl rfl
@[simp] theorem nTask_pins {z : Z} {a : Nat} (h : isTask a) : aN (mk z) (aTask_pins a) = some (I 4) := rd_aN (tgTask_pins h) rfl (by decide)
@[simp] theorem rTask_pins {z : Z} {a : Nat} (h : isTask a) {i : Int} (h0 : 0 ≤ i) (h1 : i < 4) : aI 0 (mk z) (aTask_pins a) (I i) = some ((z.tk a).pins i.toNat) := rd_aI (tgTask_pins h) rfl h0 h1 (by decide)
@[simp] theorem wTask_pins {z : Z} {a : Nat} (h : isTask a) {i : Int} (h0 : 0 ≤ i) (h1 : i < 4) {v : Int32} : sI 0 (mk z) (aTask_pins a) (I i) v = some (mk { z with tk := up z.tk a { z.tk a with pins := upd (z.tk a).pins i.toNat (v) } }) := wr_sI (tgTask_pins h) rfl h0 h1 (by decide) (ne_tk (fun t' ht => by cases t' <;> first | rfl | exact absurd rfl ht)) eq_tk
@[simp] theorem gTask_learnt {z : Z} {a : Nat} (h : isTask a) : fR (mk z) a 7 8 = some (aTask_learnt a) := rd_fR h rfl rfl
@[simp] theorem gTask_standing {z : Z} {a : Nat} (h : isTask a) : fI (mk z) a 7 9 = some (z.tk a).standing := rd_fI h rfl rfl
@[simp] theorem pTask_standing {z : Z} {a : Nat} (h : isTask a) {v : Int32} : pF (mk z) a 7 9 (.int v) = some (mk { z with tk := up z.tk a { z.tk a with standing := v } }) := wr_F h rfl (Nat.le_of_ble_eq_true rfl) (ne_tk (fun t' ht => by cases t' <;> first | rfl | exact absurd rfl ht)) eq_tk
@[simp] theorem gTask_best {z : Z} {a : Nat} (h : isTask a) : fR (mk z) a 7 10 = some (aTask_best a) := rd_fR h rfl rfl
@[simp] theorem nTask_best {z : Z} {a : Nat} (h : isTask a) : aN (mk z) (aTask_best a) = some (I 5) := rd_aN (tgTask_best h) rfl (by decide)
@[simp] theorem rTask_best {z : Z} {a : Nat} (h : isTask a) {i : Int} (h0 : 0 ≤ i) (h1 : i < 5) : aR (mk z) (aTask_best a) (I i) = some (eTask_best a i.toNat) := (rd_aR (tgTask_best h) rfl (by decide) h0 h1 (by decide)).trans (if_pos (by omega))
@[simp] theorem gTask_bestCount {z : Z} {a : Nat} (h : isTask a) : fI (mk z) a 7 11 = some (z.tk a).bestCount := rd_fI h rfl rfl
@[simp] theorem pTask_bestCount {z : Z} {a : Nat} (h : isTask a) {v : Int32} : pF (mk z) a 7 11 (.int v) = some (mk { z with tk := up z.tk a { z.tk a with bestCount := v } }) := wr_F h rfl (Nat.le_of_ble_eq_true rfl) (ne_tk (fun t' ht => by cases t' <;> first | rfl | exact absurd rfl ht)) eq_tk
@[simp] theorem gTask_isBestKnown {z : Z} {a : Nat} (h : isTask a) : fI (mk z) a 7 12 = some (z.tk a).isBestKnown := rd_fI h rfl rfl
@[simp] theorem pTask_isBestKnown {z : Z} {a : Nat} (h : isTask a) {v : Int32} : pF (mk z) a 7 12 (.int v) = some (mk { z with tk := up z.tk a { z.tk a with isBestKnown := v } }) := wr_F h rfl (Nat.le_of_ble_eq_true rfl) (ne_tk (fun t' ht => by cases t' <;> first | rfl | exact absurd rfl ht)) eq_tk
@[simp] theorem cBoard {z : Z} {a : Nat} (h : isBoard a) : isC (mk z) a 0 = true := rd_isC h rfl
@[simp] theorem gBoard_was {z : Z} {a : Nat} (h : isBoard a) : fR (mk z) a 0 0 = some (aBoard_was a) := rd_fR h rfl rfl
@[simp] theorem gBoard_shown {z : Z} {a : Nat} (h : isBoard a) : fR (mk z) a 0 1 = some (aBoard_shown a) := rd_fR h rfl rfl
@[simp] theorem gBoard_spots {z : Z} {a : Nat} (h : isBoard a) : fR (mk z) a 0 2 = some (aBoard_spots a) := rd_fR h rfl rfl
@[simp] theorem nBoard_spots {z : Z} {a : Nat} (h : isBoard a) : aN (mk z) (aBoard_spots a) = some (I 30) := rd_aN (tgBoard_spots h) rfl (by decide)
@[simp] theorem rBoard_spots {z : Z} {a : Nat} (h : isBoard a) {i : Int} (h0 : 0 ≤ i) (h1 : i < 30) : aI 0 (mk z) (aBoard_spots a) (I i) = some ((z.bd a).spots i.toNat) := rd_aI (tgBoard_spots h) rfl h0 h1 (by decide)
@[simp] theorem wBoard_spots {z : Z} {a : Nat} (h : isBoard a) {i : Int} (h0 : 0 ≤ i) (h1 : i < 30) {v : Int32} : sI 0 (mk z) (aBoard_spots a) (I i) v = some (mk { z with bd := up z.bd a { z.bd a with spots := upd (z.bd a).spots i.toNat (v) } }) := wr_sI (tgBoard_spots h) rfl h0 h1 (by decide) (ne_bd (fun t' ht => by cases t' <;> first | rfl | exact absurd rfl ht)) eq_bd
@[simp] theorem gBoard_placesOfSign {z : Z} {a : Nat} (h : isBoard a) : fR (mk z) a 0 3 = some (aBoard_placesOfSign a) := rd_fR h rfl rfl
@[simp] theorem nBoard_placesOfSign {z : Z} {a : Nat} (h : isBoard a) : aN (mk z) (aBoard_placesOfSign a) = some (I 128) := rd_aN (tgBoard_placesOfSign h) rfl (by decide)
@[simp] theorem rBoard_placesOfSign {z : Z} {a : Nat} (h : isBoard a) {i : Int} (h0 : 0 ≤ i) (h1 : i < 128) : aI 0 (mk z) (aBoard_placesOfSign a) (I i) = some ((z.bd a).placesOfSign i.toNat) := rd_aI (tgBoard_placesOfSign h) rfl h0 h1 (by decide)
@[simp] theorem wBoard_placesOfSign {z : Z} {a : Nat} (h : isBoard a) {i : Int} (h0 : 0 ≤ i) (h1 : i < 128) {v : Int32} : sI 0 (mk z) (aBoard_placesOfSign a) (I i) v = some (mk { z with bd := up z.bd a { z.bd a with placesOfSign := upd (z.bd a).placesOfSign i.toNat (v) } }) := wr_sI (tgBoard_placesOfSign h) rfl h0 h1 (by decide) (ne_bd (fun t' ht => by cases t' <;> first | rfl | exact absurd rfl ht)) eq_bd
@[simp] theorem gBoard_cutPlaces {z : Z} {a : Nat} (h : isBoard a) : fR (mk z) a 0 4 = some (aBoard_cutPlaces a) := rd_fR h rfl rfl
@[simp] theorem nBoard_cutPlaces {z : Z} {a : Nat} (h : isBoard a) : aN (mk z) (aBoard_cutPlaces a) = some (I 1764) := rd_aN (tgBoard_cutPlaces h) rfl (by decide)
@[simp] theorem rBoard_cutPlaces {z : Z} {a : Nat} (h : isBoard a) {i : Int} (h0 : 0 ≤ i) (h1 : i < 1764) : aI 0 (mk z) (aBoard_cutPlaces a) (I i) = some ((z.bd a).cutPlaces i.toNat) := rd_aI (tgBoard_cutPlaces h) rfl h0 h1 (by decide)
@[simp] theorem wBoard_cutPlaces {z : Z} {a : Nat} (h : isBoard a) {i : Int} (h0 : 0 ≤ i) (h1 : i < 1764) {v : Int32} : sI 0 (mk z) (aBoard_cutPlaces a) (I i) v = some (mk { z with bd := up z.bd a { z.bd a with cutPlaces := upd (z.bd a).cutPlaces i.toNat (v) } }) := wr_sI (tgBoard_cutPlaces h) rfl h0 h1 (by decide) (ne_bd (fun t' ht => by cases t' <;> first | rfl | exact absurd rfl ht)) eq_bd
@[simp] theorem gBoard_eachPlaces {z : Z} {a : Nat} (h : isBoard a) : fR (mk z) a 0 5 = some (aBoard_eachPlaces a) := rd_fR h rfl rfl
@[simp] theorem nBoard_eachPlaces {z : Z} {a : Nat} (h : isBoard a) : aN (mk z) (aBoard_eachPlaces a) = some (I 72) := rd_aN (tgBoard_eachPlaces h) rfl (by decide)
@[simp] theorem rBoard_eachPlaces {z : Z} {a : Nat} (h : isBoard a) {i : Int} (h0 : 0 ≤ i) (h1 : i < 72) : aI 0 (mk z) (aBoard_eachPlaces a) (I i) = some ((z.bd a).eachPlaces i.toNat) := rd_aI (tgBoard_eachPlaces h) rfl h0 h1 (by decide)
@[simp] theorem wBoard_eachPlaces {z : Z} {a : Nat} (h : isBoard a) {i : Int} (h0 : 0 ≤ i) (h1 : i < 72) {v : Int32} : sI 0 (mk z) (aBoard_eachPlaces a) (I i) v = some (mk { z with bd := up z.bd a { z.bd a with eachPlaces := upd (z.bd a).eachPlaces i.toNat (v) } }) := wr_sI (tgBoard_eachPlaces h) rfl h0 h1 (by decide) (ne_bd (fun t' ht => by cases t' <;> first | rfl | exact absurd rfl ht)) eq_bd
@[simp] theorem gBoard_eachSizes {z : Z} {a : Nat} (h : isBoard a) : fR (mk z) a 0 6 = some (aBoard_eachSizes a) := rd_fR h rfl rfl
@[simp] theorem nBoard_eachSizes {z : Z} {a : Nat} (h : isBoard a) : aN (mk z) (aBoard_eachSizes a) = some (I 72) := rd_aN (tgBoard_eachSizes h) rfl (by decide)
@[simp] theorem rBoard_eachSizes {z : Z} {a : Nat} (h : isBoard a) {i : Int} (h0 : 0 ≤ i) (h1 : i < 72) : aI 0 (mk z) (aBoard_eachSizes a) (I i) = some ((z.bd a).eachSizes i.toNat) := rd_aI (tgBoard_eachSizes h) rfl h0 h1 (by decide)
@[simp] theorem wBoard_eachSizes {z : Z} {a : Nat} (h : isBoard a) {i : Int} (h0 : 0 ≤ i) (h1 : i < 72) {v : Int32} : sI 0 (mk z) (aBoard_eachSizes a) (I i) v = some (mk { z with bd := up z.bd a { z.bd a with eachSizes := upd (z.bd a).eachSizes i.toNat (v) } }) := wr_sI (tgBoard_eachSizes h) rfl h0 h1 (by decide) (ne_bd (fun t' ht => by cases t' <;> first | rfl | exact absurd rfl ht)) eq_bd
@[simp] theorem gBoard_made {z : Z} {a : Nat} (h : isBoard a) : fR (mk z) a 0 7 = some (aBoard_made a) := rd_fR h rfl rfl
@[simp] theorem cFinder {z : Z} : isC (mk z) aFinder 1 = true := rd_isC tgFinder rfl
@[simp] theorem gFinder_found {z : Z} : fR (mk z) aFinder 1 0 = some (aFinder_found) := rd_fR tgFinder rfl rfl
@[simp] theorem nFinder_found {z : Z} : aN (mk z) (aFinder_found) = some (I 5) := rd_aN tgFinder_found rfl (by decide)
@[simp] theorem rFinder_found {z : Z} {i : Int} (h0 : 0 ≤ i) (h1 : i < 5) : aR (mk z) (aFinder_found) (I i) = some (eFinder_found i.toNat) := (rd_aR tgFinder_found rfl (by decide) h0 h1 (by decide)).trans (if_pos (by omega))
@[simp] theorem gFinder_foundCount {z : Z} : fI (mk z) aFinder 1 1 = some z.fi.foundCount := rd_fI tgFinder rfl rfl
@[simp] theorem pFinder_foundCount {z : Z} {v : Int32} : pF (mk z) aFinder 1 1 (.int v) = some (mk { z with fi := { z.fi with foundCount := v } }) := wr_F tgFinder rfl (Nat.le_of_ble_eq_true rfl) (ne_fi (fun t' ht => by cases t' <;> first | rfl | exact absurd rfl ht)) rfl
@[simp] theorem gFinder_stock {z : Z} : fR (mk z) aFinder 1 2 = some (aStock) := rd_fR tgFinder rfl rfl
@[simp] theorem gFinder_lookedAt {z : Z} : fO (mk z) aFinder 1 3 = some z.fi.lookedAt := rd_fO tgFinder rfl rfl
@[simp] theorem pFinder_lookedAt {z : Z} {v : Nat} : pF (mk z) aFinder 1 3 (.ref v) = some (mk { z with fi := { z.fi with lookedAt := some v } }) := wr_F tgFinder rfl (Nat.le_of_ble_eq_true rfl) (ne_fi (fun t' ht => by cases t' <;> first | rfl | exact absurd rfl ht)) rfl
@[simp] theorem gFinder_boardCount {z : Z} : fI (mk z) aFinder 1 4 = some z.fi.boardCount := rd_fI tgFinder rfl rfl
@[simp] theorem pFinder_boardCount {z : Z} {v : Int32} : pF (mk z) aFinder 1 4 (.int v) = some (mk { z with fi := { z.fi with boardCount := v } }) := wr_F tgFinder rfl (Nat.le_of_ble_eq_true rfl) (ne_fi (fun t' ht => by cases t' <;> first | rfl | exact absurd rfl ht)) rfl
@[simp] theorem gFinder_pins {z : Z} : fR (mk z) aFinder 1 5 = some (aFinder_pins) := rd_fR tgFinder rfl rfl
@[simp] theorem nFinder_pins {z : Z} : aN (mk z) (aFinder_pins) = some (I 4) := rd_aN tgFinder_pins rfl (by decide)
@[simp] theorem rFinder_pins {z : Z} {i : Int} (h0 : 0 ≤ i) (h1 : i < 4) : aI 0 (mk z) (aFinder_pins) (I i) = some (z.fi.pins i.toNat) := rd_aI tgFinder_pins rfl h0 h1 (by decide)
@[simp] theorem wFinder_pins {z : Z} {i : Int} (h0 : 0 ≤ i) (h1 : i < 4) {v : Int32} : sI 0 (mk z) (aFinder_pins) (I i) v = some (mk { z with fi := { z.fi with pins := upd z.fi.pins i.toNat (v) } }) := wr_sI tgFinder_pins rfl h0 h1 (by decide) (ne_fi (fun t' ht => by cases t' <;> first | rfl | exact absurd rfl ht)) rfl
@[simp] theorem gFinder_pinIndexes {z : Z} : fR (mk z) aFinder 1 6 = some (aFinder_pinIndexes) := rd_fR tgFinder rfl rfl
@[simp] theorem nFinder_pinIndexes {z : Z} : aN (mk z) (aFinder_pinIndexes) = some (I 4) := rd_aN tgFinder_pinIndexes rfl (by decide)
@[simp] theorem rFinder_pinIndexes {z : Z} {i : Int} (h0 : 0 ≤ i) (h1 : i < 4) : aI 0 (mk z) (aFinder_pinIndexes) (I i) = some (z.fi.pinIndexes i.toNat) := rd_aI tgFinder_pinIndexes rfl h0 h1 (by decide)
@[simp] theorem wFinder_pinIndexes {z : Z} {i : Int} (h0 : 0 ≤ i) (h1 : i < 4) {v : Int32} : sI 0 (mk z) (aFinder_pinIndexes) (I i) v = some (mk { z with fi := { z.fi with pinIndexes := upd z.fi.pinIndexes i.toNat (v) } }) := wr_sI tgFinder_pinIndexes rfl h0 h1 (by decide) (ne_fi (fun t' ht => by cases t' <;> first | rfl | exact absurd rfl ht)) rfl
@[simp] theorem gFinder_isPinned {z : Z} : fI (mk z) aFinder 1 7 = some z.fi.isPinned := rd_fI tgFinder rfl rfl
@[simp] theorem pFinder_isPinned {z : Z} {v : Int32} : pF (mk z) aFinder 1 7 (.int v) = some (mk { z with fi := { z.fi with isPinned := v } }) := wr_F tgFinder rfl (Nat.le_of_ble_eq_true rfl) (ne_fi (fun t' ht => by cases t' <;> first | rfl | exact absurd rfl ht)) rfl
@[simp] theorem gFinder_ways {z : Z} : fR (mk z) aFinder 1 8 = some (aFinder_ways) := rd_fR tgFinder rfl rfl
@[simp] theorem nFinder_ways {z : Z} : aN (mk z) (aFinder_ways) = some (I 924) := rd_aN tgFinder_ways rfl (by decide)
@[simp] theorem rFinder_ways {z : Z} {i : Int} (h0 : 0 ≤ i) (h1 : i < 924) : aJ (mk z) (aFinder_ways) (I i) = some (z.fi.ways i.toNat) := rd_aJ tgFinder_ways rfl h0 h1 (by decide)
@[simp] theorem wFinder_ways {z : Z} {i : Int} (h0 : 0 ≤ i) (h1 : i < 924) {v : Int64} : sJ (mk z) (aFinder_ways) (I i) v = some (mk { z with fi := { z.fi with ways := vp_updL z.fi.ways i.toNat v } }) := wr_sJ tgFinder_ways rfl h0 h1 (by decide) (ne_fi (fun t' ht => by cases t' <;> first | rfl | exact absurd rfl ht)) rfl
@[simp] theorem gFinder_knownKeys {z : Z} : fR (mk z) aFinder 1 9 = some (aFinder_knownKeys) := rd_fR tgFinder rfl rfl
@[simp] theorem nFinder_knownKeys {z : Z} : aN (mk z) (aFinder_knownKeys) = some (I 2048) := rd_aN tgFinder_knownKeys rfl (by decide)
@[simp] theorem rFinder_knownKeys {z : Z} {i : Int} (h0 : 0 ≤ i) (h1 : i < 2048) : aJ (mk z) (aFinder_knownKeys) (I i) = some (z.fi.knownKeys i.toNat) := rd_aJ tgFinder_knownKeys rfl h0 h1 (by decide)
@[simp] theorem wFinder_knownKeys {z : Z} {i : Int} (h0 : 0 ≤ i) (h1 : i < 2048) {v : Int64} : sJ (mk z) (aFinder_knownKeys) (I i) v = some (mk { z with fi := { z.fi with knownKeys := vp_updL z.fi.knownKeys i.toNat v } }) := wr_sJ tgFinder_knownKeys rfl h0 h1 (by decide) (ne_fi (fun t' ht => by cases t' <;> first | rfl | exact absurd rfl ht)) rfl
@[simp] theorem gFinder_knownEndings {z : Z} : fR (mk z) aFinder 1 10 = some (aFinder_knownEndings) := rd_fR tgFinder rfl rfl
@[simp] theorem nFinder_knownEndings {z : Z} : aN (mk z) (aFinder_knownEndings) = some (I 2048) := rd_aN tgFinder_knownEndings rfl (by decide)
@[simp] theorem rFinder_knownEndings {z : Z} {i : Int} (h0 : 0 ≤ i) (h1 : i < 2048) : aJ (mk z) (aFinder_knownEndings) (I i) = some (z.fi.knownEndings i.toNat) := rd_aJ tgFinder_knownEndings rfl h0 h1 (by decide)
@[simp] theorem wFinder_knownEndings {z : Z} {i : Int} (h0 : 0 ≤ i) (h1 : i < 2048) {v : Int64} : sJ (mk z) (aFinder_knownEndings) (I i) v = some (mk { z with fi := { z.fi with knownEndings := vp_updL z.fi.knownEndings i.toNat v } }) := wr_sJ tgFinder_knownEndings rfl h0 h1 (by decide) (ne_fi (fun t' ht => by cases t' <;> first | rfl | exact absurd rfl ht)) rfl
@[simp] theorem gFinder_searches {z : Z} : fJ (mk z) aFinder 1 11 = some z.fi.searches := rd_fJ tgFinder rfl rfl
@[simp] theorem pFinder_searches {z : Z} {v : Int64} : pF (mk z) aFinder 1 11 (.long v) = some (mk { z with fi := { z.fi with searches := v } }) := wr_F tgFinder rfl (Nat.le_of_ble_eq_true rfl) (ne_fi (fun t' ht => by cases t' <;> first | rfl | exact absurd rfl ht)) rfl
@[simp] theorem gFinder_at_ {z : Z} : fR (mk z) aFinder 1 12 = some (aFinder_at_) := rd_fR tgFinder rfl rfl
@[simp] theorem nFinder_at_ {z : Z} : aN (mk z) (aFinder_at_) = some (I 20) := rd_aN tgFinder_at_ rfl (by decide)
@[simp] theorem rFinder_at_ {z : Z} {i : Int} (h0 : 0 ≤ i) (h1 : i < 20) : aI 0 (mk z) (aFinder_at_) (I i) = some (z.fi.at_ i.toNat) := rd_aI tgFinder_at_ rfl h0 h1 (by decide)
@[simp] theorem wFinder_at_ {z : Z} {i : Int} (h0 : 0 ≤ i) (h1 : i < 20) {v : Int32} : sI 0 (mk z) (aFinder_at_) (I i) v = some (mk { z with fi := { z.fi with at_ := upd z.fi.at_ i.toNat (v) } }) := wr_sI tgFinder_at_ rfl h0 h1 (by decide) (ne_fi (fun t' ht => by cases t' <;> first | rfl | exact absurd rfl ht)) rfl
@[simp] theorem gFinder_row {z : Z} : fR (mk z) aFinder 1 13 = some (aFinder_row) := rd_fR tgFinder rfl rfl
@[simp] theorem nFinder_row {z : Z} : aN (mk z) (aFinder_row) = some (I 4) := rd_aN tgFinder_row rfl (by decide)
@[simp] theorem rFinder_row {z : Z} {i : Int} (h0 : 0 ≤ i) (h1 : i < 4) : aI 0 (mk z) (aFinder_row) (I i) = some (z.fi.row i.toNat) := rd_aI tgFinder_row rfl h0 h1 (by decide)
@[simp] theorem wFinder_row {z : Z} {i : Int} (h0 : 0 ≤ i) (h1 : i < 4) {v : Int32} : sI 0 (mk z) (aFinder_row) (I i) v = some (mk { z with fi := { z.fi with row := upd z.fi.row i.toNat (v) } }) := wr_sI tgFinder_row rfl h0 h1 (by decide) (ne_fi (fun t' ht => by cases t' <;> first | rfl | exact absurd rfl ht)) rfl
@[simp] theorem cStock {z : Z} : isC (mk z) aStock 6 = true := rd_isC tgStock rfl
@[simp] theorem gStock_boards {z : Z} : fR (mk z) aStock 6 0 = some (aStock_boards) := rd_fR tgStock rfl rfl
@[simp] theorem nStock_boards {z : Z} : aN (mk z) (aStock_boards) = some (I 4) := rd_aN tgStock_boards rfl (by decide)
@[simp] theorem rStock_boards {z : Z} {i : Int} (h0 : 0 ≤ i) (h1 : i < 4) : aR (mk z) (aStock_boards) (I i) = some (eStock_boards i.toNat) := (rd_aR tgStock_boards rfl (by decide) h0 h1 (by decide)).trans (if_pos (by omega))
@[simp] theorem gStock_members {z : Z} : fR (mk z) aStock 6 1 = some (aStock_members) := rd_fR tgStock rfl rfl
@[simp] theorem nStock_members {z : Z} : aN (mk z) (aStock_members) = some (I 4) := rd_aN tgStock_members rfl (by decide)
@[simp] theorem rStock_members {z : Z} {i : Int} (h0 : 0 ≤ i) (h1 : i < 4) : aR (mk z) (aStock_members) (I i) = z.st.members i.toNat := rd_aR tgStock_members rfl (by decide) h0 h1 (by decide)
@[simp] theorem wStock_members {z : Z} {i : Int} (h0 : 0 ≤ i) (h1 : i < 4) {q : Nat} (hq : isBoard q) : sR (mk z) (aStock_members) (I i) q = some (mk { z with st := { z.st with members := va_up z.st.members i.toNat (some q) } }) := wr_sR tgStock_members rfl hq rfl (by decide) h0 h1 (by decide) (ne_st (fun t' ht => by cases t' <;> first | rfl | exact absurd rfl ht)) rfl
@[simp] theorem gStock_memberCount {z : Z} : fI (mk z) aStock 6 2 = some z.st.memberCount := rd_fI tgStock rfl rfl
@[simp] theorem pStock_memberCount {z : Z} {v : Int32} : pF (mk z) aStock 6 2 (.int v) = some (mk { z with st := { z.st with memberCount := v } }) := wr_F tgStock rfl (Nat.le_of_ble_eq_true rfl) (ne_st (fun t' ht => by cases t' <;> first | rfl | exact absurd rfl ht)) rfl
@[simp] theorem gStock_atoms {z : Z} : fR (mk z) aStock 6 3 = some (aStock_atoms) := rd_fR tgStock rfl rfl
@[simp] theorem nStock_atoms {z : Z} : aN (mk z) (aStock_atoms) = some (I 1812) := rd_aN tgStock_atoms rfl (by decide)
@[simp] theorem rStock_atoms {z : Z} {i : Int} (h0 : 0 ≤ i) (h1 : i < 1812) : aI 0 (mk z) (aStock_atoms) (I i) = some (z.st.atoms i.toNat) := rd_aI tgStock_atoms rfl h0 h1 (by decide)
@[simp] theorem wStock_atoms {z : Z} {i : Int} (h0 : 0 ≤ i) (h1 : i < 1812) {v : Int32} : sI 0 (mk z) (aStock_atoms) (I i) v = some (mk { z with st := { z.st with atoms := upd z.st.atoms i.toNat (v) } }) := wr_sI tgStock_atoms rfl h0 h1 (by decide) (ne_st (fun t' ht => by cases t' <;> first | rfl | exact absurd rfl ht)) rfl
@[simp] theorem gStock_weights {z : Z} : fR (mk z) aStock 6 4 = some (aStock_weights) := rd_fR tgStock rfl rfl
@[simp] theorem nStock_weights {z : Z} : aN (mk z) (aStock_weights) = some (I 1812) := rd_aN tgStock_weights rfl (by decide)
@[simp] theorem rStock_weights {z : Z} {i : Int} (h0 : 0 ≤ i) (h1 : i < 1812) : aI 0 (mk z) (aStock_weights) (I i) = some (z.st.weights i.toNat) := rd_aI tgStock_weights rfl h0 h1 (by decide)
@[simp] theorem wStock_weights {z : Z} {i : Int} (h0 : 0 ≤ i) (h1 : i < 1812) {v : Int32} : sI 0 (mk z) (aStock_weights) (I i) v = some (mk { z with st := { z.st with weights := upd z.st.weights i.toNat (v) } }) := wr_sI tgStock_weights rfl h0 h1 (by decide) (ne_st (fun t' ht => by cases t' <;> first | rfl | exact absurd rfl ht)) rfl
@[simp] theorem gStock_places {z : Z} : fR (mk z) aStock 6 5 = some (aStock_places) := rd_fR tgStock rfl rfl
@[simp] theorem nStock_places {z : Z} : aN (mk z) (aStock_places) = some (I 7248) := rd_aN tgStock_places rfl (by decide)
@[simp] theorem rStock_places {z : Z} {i : Int} (h0 : 0 ≤ i) (h1 : i < 7248) : aI 0 (mk z) (aStock_places) (I i) = some (z.st.places i.toNat) := rd_aI tgStock_places rfl h0 h1 (by decide)
@[simp] theorem wStock_places {z : Z} {i : Int} (h0 : 0 ≤ i) (h1 : i < 7248) {v : Int32} : sI 0 (mk z) (aStock_places) (I i) v = some (mk { z with st := { z.st with places := upd z.st.places i.toNat (v) } }) := wr_sI tgStock_places rfl h0 h1 (by decide) (ne_st (fun t' ht => by cases t' <;> first | rfl | exact absurd rfl ht)) rfl
@[simp] theorem gStock_sizes {z : Z} : fR (mk z) aStock 6 6 = some (aStock_sizes) := rd_fR tgStock rfl rfl
@[simp] theorem nStock_sizes {z : Z} : aN (mk z) (aStock_sizes) = some (I 7248) := rd_aN tgStock_sizes rfl (by decide)
@[simp] theorem rStock_sizes {z : Z} {i : Int} (h0 : 0 ≤ i) (h1 : i < 7248) : aI 0 (mk z) (aStock_sizes) (I i) = some (z.st.sizes i.toNat) := rd_aI tgStock_sizes rfl h0 h1 (by decide)
@[simp] theorem wStock_sizes {z : Z} {i : Int} (h0 : 0 ≤ i) (h1 : i < 7248) {v : Int32} : sI 0 (mk z) (aStock_sizes) (I i) v = some (mk { z with st := { z.st with sizes := upd z.st.sizes i.toNat (v) } }) := wr_sI tgStock_sizes rfl h0 h1 (by decide) (ne_st (fun t' ht => by cases t' <;> first | rfl | exact absurd rfl ht)) rfl
@[simp] theorem gStock_atomCount {z : Z} : fI (mk z) aStock 6 7 = some z.st.atomCount := rd_fI tgStock rfl rfl
@[simp] theorem pStock_atomCount {z : Z} {v : Int32} : pF (mk z) aStock 6 7 (.int v) = some (mk { z with st := { z.st with atomCount := v } }) := wr_F tgStock rfl (Nat.le_of_ble_eq_true rfl) (ne_st (fun t' ht => by cases t' <;> first | rfl | exact absurd rfl ht)) rfl
@[simp] theorem gStock_shared {z : Z} : fR (mk z) aStock 6 8 = some (aStock_shared) := rd_fR tgStock rfl rfl
@[simp] theorem nStock_shared {z : Z} : aN (mk z) (aStock_shared) = some (I 84) := rd_aN tgStock_shared rfl (by decide)
@[simp] theorem rStock_shared {z : Z} {i : Int} (h0 : 0 ≤ i) (h1 : i < 84) : aI 0 (mk z) (aStock_shared) (I i) = some (z.st.shared i.toNat) := rd_aI tgStock_shared rfl h0 h1 (by decide)
@[simp] theorem wStock_shared {z : Z} {i : Int} (h0 : 0 ≤ i) (h1 : i < 84) {v : Int32} : sI 0 (mk z) (aStock_shared) (I i) v = some (mk { z with st := { z.st with shared := upd z.st.shared i.toNat (v) } }) := wr_sI tgStock_shared rfl h0 h1 (by decide) (ne_st (fun t' ht => by cases t' <;> first | rfl | exact absurd rfl ht)) rfl
@[simp] theorem gStock_groups {z : Z} : fR (mk z) aStock 6 9 = some (aStock_groups) := rd_fR tgStock rfl rfl
@[simp] theorem nStock_groups {z : Z} : aN (mk z) (aStock_groups) = some (I 1812) := rd_aN tgStock_groups rfl (by decide)
@[simp] theorem rStock_groups {z : Z} {i : Int} (h0 : 0 ≤ i) (h1 : i < 1812) : aI 0 (mk z) (aStock_groups) (I i) = some (z.st.groups i.toNat) := rd_aI tgStock_groups rfl h0 h1 (by decide)
@[simp] theorem wStock_groups {z : Z} {i : Int} (h0 : 0 ≤ i) (h1 : i < 1812) {v : Int32} : sI 0 (mk z) (aStock_groups) (I i) v = some (mk { z with st := { z.st with groups := upd z.st.groups i.toNat (v) } }) := wr_sI tgStock_groups rfl h0 h1 (by decide) (ne_st (fun t' ht => by cases t' <;> first | rfl | exact absurd rfl ht)) rfl
@[simp] theorem gStock_groupWeights {z : Z} : fR (mk z) aStock 6 10 = some (aStock_groupWeights) := rd_fR tgStock rfl rfl
@[simp] theorem nStock_groupWeights {z : Z} : aN (mk z) (aStock_groupWeights) = some (I 1812) := rd_aN tgStock_groupWeights rfl (by decide)
@[simp] theorem rStock_groupWeights {z : Z} {i : Int} (h0 : 0 ≤ i) (h1 : i < 1812) : aI 0 (mk z) (aStock_groupWeights) (I i) = some (z.st.groupWeights i.toNat) := rd_aI tgStock_groupWeights rfl h0 h1 (by decide)
@[simp] theorem wStock_groupWeights {z : Z} {i : Int} (h0 : 0 ≤ i) (h1 : i < 1812) {v : Int32} : sI 0 (mk z) (aStock_groupWeights) (I i) v = some (mk { z with st := { z.st with groupWeights := upd z.st.groupWeights i.toNat (v) } }) := wr_sI tgStock_groupWeights rfl h0 h1 (by decide) (ne_st (fun t' ht => by cases t' <;> first | rfl | exact absurd rfl ht)) rfl
@[simp] theorem gStock_groupCount {z : Z} : fI (mk z) aStock 6 11 = some z.st.groupCount := rd_fI tgStock rfl rfl
@[simp] theorem pStock_groupCount {z : Z} {v : Int32} : pF (mk z) aStock 6 11 (.int v) = some (mk { z with st := { z.st with groupCount := v } }) := wr_F tgStock rfl (Nat.le_of_ble_eq_true rfl) (ne_st (fun t' ht => by cases t' <;> first | rfl | exact absurd rfl ht)) rfl
@[simp] theorem gStock_newest {z : Z} : fR (mk z) aStock 6 12 = some (aStock_newest) := rd_fR tgStock rfl rfl
@[simp] theorem nStock_newest {z : Z} : aN (mk z) (aStock_newest) = some (I 21) := rd_aN tgStock_newest rfl (by decide)
@[simp] theorem rStock_newest {z : Z} {i : Int} (h0 : 0 ≤ i) (h1 : i < 21) : aI 0 (mk z) (aStock_newest) (I i) = some (z.st.newest i.toNat) := rd_aI tgStock_newest rfl h0 h1 (by decide)
@[simp] theorem wStock_newest {z : Z} {i : Int} (h0 : 0 ≤ i) (h1 : i < 21) {v : Int32} : sI 0 (mk z) (aStock_newest) (I i) v = some (mk { z with st := { z.st with newest := upd z.st.newest i.toNat (v) } }) := wr_sI tgStock_newest rfl h0 h1 (by decide) (ne_st (fun t' ht => by cases t' <;> first | rfl | exact absurd rfl ht)) rfl
@[simp] theorem gStock_older {z : Z} : fR (mk z) aStock 6 13 = some (aStock_older) := rd_fR tgStock rfl rfl
@[simp] theorem nStock_older {z : Z} : aN (mk z) (aStock_older) = some (I 1812) := rd_aN tgStock_older rfl (by decide)
@[simp] theorem rStock_older {z : Z} {i : Int} (h0 : 0 ≤ i) (h1 : i < 1812) : aI 0 (mk z) (aStock_older) (I i) = some (z.st.older i.toNat) := rd_aI tgStock_older rfl h0 h1 (by decide)
@[simp] theorem wStock_older {z : Z} {i : Int} (h0 : 0 ≤ i) (h1 : i < 1812) {v : Int32} : sI 0 (mk z) (aStock_older) (I i) v = some (mk { z with st := { z.st with older := upd z.st.older i.toNat (v) } }) := wr_sI tgStock_older rfl h0 h1 (by decide) (ne_st (fun t' ht => by cases t' <;> first | rfl | exact absurd rfl ht)) rfl
@[simp] theorem cLearner {z : Z} : isC (mk z) aLearner 2 = true := rd_isC tgLearner rfl
@[simp] theorem gLearner_finder {z : Z} : fR (mk z) aLearner 2 0 = some (aFinder) := rd_fR tgLearner rfl rfl
@[simp] theorem gLearner_chosen {z : Z} : fR (mk z) aLearner 2 1 = some (aLearner_chosen) := rd_fR tgLearner rfl rfl
@[simp] theorem nLearner_chosen {z : Z} : aN (mk z) (aLearner_chosen) = some (I 16) := rd_aN tgLearner_chosen rfl (by decide)
@[simp] theorem rLearner_chosen {z : Z} {i : Int} (h0 : 0 ≤ i) (h1 : i < 16) : aR (mk z) (aLearner_chosen) (I i) = some (eLearner_chosen i.toNat) := (rd_aR tgLearner_chosen rfl (by decide) h0 h1 (by decide)).trans (if_pos (by omega))
@[simp] theorem gLearner_tried {z : Z} : fR (mk z) aLearner 2 2 = some (aLearner_tried) := rd_fR tgLearner rfl rfl
@[simp] theorem nLearner_tried {z : Z} : aN (mk z) (aLearner_tried) = some (I 16) := rd_aN tgLearner_tried rfl (by decide)
@[simp] theorem rLearner_tried {z : Z} {i : Int} (h0 : 0 ≤ i) (h1 : i < 16) : aI 0 (mk z) (aLearner_tried) (I i) = some (z.lr.tried i.toNat) := rd_aI tgLearner_tried rfl h0 h1 (by decide)
@[simp] theorem wLearner_tried {z : Z} {i : Int} (h0 : 0 ≤ i) (h1 : i < 16) {v : Int32} : sI 0 (mk z) (aLearner_tried) (I i) v = some (mk { z with lr := { z.lr with tried := upd z.lr.tried i.toNat (v) } }) := wr_sI tgLearner_tried rfl h0 h1 (by decide) (ne_lr (fun t' ht => by cases t' <;> first | rfl | exact absurd rfl ht)) rfl
@[simp] theorem gLearner_made {z : Z} : fR (mk z) aLearner 2 3 = some (aLearner_made) := rd_fR tgLearner rfl rfl
@[simp] theorem gLearner_madeFirst {z : Z} : fR (mk z) aLearner 2 4 = some (aLearner_madeFirst) := rd_fR tgLearner rfl rfl
@[simp] theorem cScript {z : Z} : isC (mk z) aScript 9 = true := rd_isC tgScript rfl
@[simp] theorem gScript_draft {z : Z} : fR (mk z) aScript 9 0 = some (aScript_draft) := rd_fR tgScript rfl rfl
@[simp] theorem gScript_made {z : Z} : fR (mk z) aScript 9 1 = some (aScript_made) := rd_fR tgScript rfl rfl
@[simp] theorem gScript_tasks {z : Z} : fR (mk z) aScript 9 2 = some (aScript_tasks) := rd_fR tgScript rfl rfl
@[simp] theorem nScript_tasks {z : Z} : aN (mk z) (aScript_tasks) = some (I 3) := rd_aN tgScript_tasks rfl (by decide)
@[simp] theorem rScript_tasks {z : Z} {i : Int} (h0 : 0 ≤ i) (h1 : i < 3) : aR (mk z) (aScript_tasks) (I i) = some (eScript_tasks i.toNat) := (rd_aR tgScript_tasks rfl (by decide) h0 h1 (by decide)).trans (if_pos (by omega))
@[simp] theorem gScript_lines {z : Z} : fR (mk z) aScript 9 3 = some (aScript_lines) := rd_fR tgScript rfl rfl
@[simp] theorem nScript_lines {z : Z} : aN (mk z) (aScript_lines) = some (I 8) := rd_aN tgScript_lines rfl (by decide)
@[simp] theorem rScript_lines {z : Z} {i : Int} (h0 : 0 ≤ i) (h1 : i < 8) : aR (mk z) (aScript_lines) (I i) = some (eScript_lines i.toNat) := (rd_aR tgScript_lines rfl (by decide) h0 h1 (by decide)).trans (if_pos (by omega))
@[simp] theorem gScript_ranBy {z : Z} : fR (mk z) aScript 9 4 = some (aScript_ranBy) := rd_fR tgScript rfl rfl
@[simp] theorem nScript_ranBy {z : Z} : aN (mk z) (aScript_ranBy) = some (I 30) := rd_aN tgScript_ranBy rfl (by decide)
@[simp] theorem rScript_ranBy {z : Z} {i : Int} (h0 : 0 ≤ i) (h1 : i < 30) : aR (mk z) (aScript_ranBy) (I i) = some (eScript_ranBy i.toNat) := (rd_aR tgScript_ranBy rfl (by decide) h0 h1 (by decide)).trans (if_pos (by omega))
@[simp] theorem gScript_runCounts {z : Z} : fR (mk z) aScript 9 5 = some (aScript_runCounts) := rd_fR tgScript rfl rfl
@[simp] theorem nScript_runCounts {z : Z} : aN (mk z) (aScript_runCounts) = some (I 30) := rd_aN tgScript_runCounts rfl (by decide)
@[simp] theorem rScript_runCounts {z : Z} {i : Int} (h0 : 0 ≤ i) (h1 : i < 30) : aI 3 (mk z) (aScript_runCounts) (I i) = some (z.sc.runCounts i.toNat) := rd_aI tgScript_runCounts rfl h0 h1 (by decide)
@[simp] theorem wScript_runCounts {z : Z} {i : Int} (h0 : 0 ≤ i) (h1 : i < 30) {v : Int32} : sI 3 (mk z) (aScript_runCounts) (I i) v = some (mk { z with sc := { z.sc with runCounts := upd z.sc.runCounts i.toNat (nrT 3 v) } }) := wr_sI tgScript_runCounts rfl h0 h1 (by decide) (ne_sc (fun t' ht => by cases t' <;> first | rfl | exact absurd rfl ht)) rfl
@[simp] theorem gScript_learner {z : Z} : fR (mk z) aScript 9 6 = some (aLearner) := rd_fR tgScript rfl rfl
@[simp] theorem gScript_lineCount {z : Z} : fI (mk z) aScript 9 7 = some z.sc.lineCount := rd_fI tgScript rfl rfl
@[simp] theorem pScript_lineCount {z : Z} {v : Int32} : pF (mk z) aScript 9 7 (.int v) = some (mk { z with sc := { z.sc with lineCount := v } }) := wr_F tgScript rfl (Nat.le_of_ble_eq_true rfl) (ne_sc (fun t' ht => by cases t' <;> first | rfl | exact absurd rfl ht)) rfl
@[simp] theorem gScript_runCount {z : Z} : fI (mk z) aScript 9 8 = some z.sc.runCount := rd_fI tgScript rfl rfl
@[simp] theorem pScript_runCount {z : Z} {v : Int32} : pF (mk z) aScript 9 8 (.int v) = some (mk { z with sc := { z.sc with runCount := v } }) := wr_F tgScript rfl (Nat.le_of_ble_eq_true rfl) (ne_sc (fun t' ht => by cases t' <;> first | rfl | exact absurd rfl ht)) rfl
@[simp] theorem gScript_askedLines {z : Z} : fI (mk z) aScript 9 9 = some z.sc.askedLines := rd_fI tgScript rfl rfl
@[simp] theorem pScript_askedLines {z : Z} {v : Int32} : pF (mk z) aScript 9 9 (.int v) = some (mk { z with sc := { z.sc with askedLines := v } }) := wr_F tgScript rfl (Nat.le_of_ble_eq_true rfl) (ne_sc (fun t' ht => by cases t' <;> first | rfl | exact absurd rfl ht)) rfl
@[simp] theorem rOut {z : Z} {i : Int} (h0 : 0 ≤ i) (h1 : i < 1) : aJ (mk z) aOut (I i) = some (z.out i.toNat) := rd_aJ tgOut rfl h0 h1 (by decide)
@[simp] theorem wOut {z : Z} {i : Int} (h0 : 0 ≤ i) (h1 : i < 1) {v : Int64} : sJ (mk z) aOut (I i) v = some (mk { z with out := vp_updL z.out i.toNat v }) := wr_sJ tgOut rfl h0 h1 (by decide) (fun g' hg => by cases g' <;> first | rfl | exact absurd rfl hg) rfl
attribute [simp] is_Learnt_first is_Learnt_second is_Line_came is_Line_now is_eTask_was is_eTask_shown is_eTask_refusedOf is_eTask_refused is_Task_learnt is_eTask_best is_Board_was is_Board_shown is_Board_made is_eFinder_found is_eStock_boards is_eLearner_chosen is_Learner_made is_Learner_madeFirst is_Script_draft is_Script_made is_eScript_tasks is_eScript_lines is_eScript_ranBy
