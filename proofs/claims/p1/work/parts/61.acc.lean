/-! READING AND WRITING THE TYPED STATE (laid by wip/whole/tools/gen_typed.py). Ints are I n, n an Int. -/
def I (n : Int) : Int32 := Int32.ofInt n
def J (n : Int) : Int64 := Int64.ofInt n
theorem I_nn {i : Int} (h0 : 0 ≤ i) (h1 : i < 2147483648) : ¬ I i < 0 := by
  unfold I
  rw [Int32.lt_iff_toInt_lt, Int32.toInt_ofInt_of_le (by omega) (by omega)]
  show ¬ i < 0
  omega
theorem I_nat {i : Int} (h0 : -2147483648 ≤ i) (h1 : i < 2147483648) : (I i).toNatClampNeg = i.toNat := by
  unfold I
  exact Int32.toNatClampNeg_ofInt_of_le (by omega) (by omega)
theorem I_in {i : Int} {n : Nat} (h0 : 0 ≤ i) (h1 : i < n) (hn : n ≤ 2147483648) : ¬ (I i < 0 ∨ n ≤ (I i).toNatClampNeg) := by
  rw [I_nat (by omega) (by omega)]
  have := I_nn h0 (by omega : i < 2147483648)
  intro h
  rcases h with h | h
  · exact this h
  · omega
section
variable {z z' : Z} {a ci k n : Nat} {g : Nat × Nat} {fs : List Value}
theorem rd_gF {v : Value} (h : shp[a]? = some g) (hz : zc z g = .inr (ci, fs)) (hv : fs[k]? = some v) : gF (mk z) a ci k = some v := by
  unfold gF
  rw [mk_get h, hz]
  dsimp only
  rw [if_pos rfl, hv]
theorem rd_fI {v : Int32} (h : shp[a]? = some g) (hz : zc z g = .inr (ci, fs)) (hv : fs[k]? = some (.int v)) : fI (mk z) a ci k = some v := by
  unfold fI
  rw [rd_gF h hz hv]
theorem rd_fJ {v : Int64} (h : shp[a]? = some g) (hz : zc z g = .inr (ci, fs)) (hv : fs[k]? = some (.long v)) : fJ (mk z) a ci k = some v := by
  unfold fJ
  rw [rd_gF h hz hv]
theorem rd_fR {v : Nat} (h : shp[a]? = some g) (hz : zc z g = .inr (ci, fs)) (hv : fs[k]? = some (.ref v)) : fR (mk z) a ci k = some v := by
  unfold fR
  rw [rd_gF h hz hv]
theorem rd_fO {v : Option Nat} (h : shp[a]? = some g) (hz : zc z g = .inr (ci, fs)) (hv : fs[k]? = some (va_rf v)) : fO (mk z) a ci k = some v := by
  unfold fO
  rw [rd_gF h hz hv]
  cases v <;> rfl
theorem rd_isC (h : shp[a]? = some g) (hz : zc z g = .inr (ci, fs)) : isC (mk z) a ci = true := by
  unfold isC
  rw [mk_get h, hz]
  simp
theorem wr_F {v : Value} (h : shp[a]? = some g) (hz : zc z g = .inr (ci, fs)) (hk : k < fs.length) (h1 : ∀ g', adr g' ≠ adr g → zc z' g' = zc z g') (h2 : zc z' g = .inr (ci, fs.set k v)) : pF (mk z) a ci k v = some (mk z') := by
  unfold pF
  rw [mk_get h, hz]
  dsimp only
  rw [if_pos ⟨rfl, hk⟩, mk_set h h1 h2]
theorem rd_aI {t : Nat} {f : Nat → Int32} {i : Int} (h : shp[a]? = some g) (hz : zc z g = .inl (t, n, .inl f)) (h0 : 0 ≤ i) (h1 : i < n) (hn : n ≤ 2147483648) : aI t (mk z) a (I i) = some (f i.toNat) := by
  unfold aI
  rw [mk_get h, hz]
  dsimp only
  rw [if_pos ⟨rfl, I_in h0 h1 hn⟩, I_nat (by omega) (by omega)]
theorem rd_aJ {f : Nat → Int64} {i : Int} (h : shp[a]? = some g) (hz : zc z g = .inl (1, n, .inr (.inl f))) (h0 : 0 ≤ i) (h1 : i < n) (hn : n ≤ 2147483648) : aJ (mk z) a (I i) = some (f i.toNat) := by
  unfold aJ
  rw [mk_get h, hz]
  dsimp only
  rw [if_pos ⟨rfl, I_in h0 h1 hn⟩, I_nat (by omega) (by omega)]
theorem rd_aR {t : Nat} {f : Nat → Option Nat} {i : Int} (h : shp[a]? = some g) (hz : zc z g = .inl (t, n, .inr (.inr (.inr (.inr f))))) (ht : 4 ≤ t ∧ t < 10) (h0 : 0 ≤ i) (h1 : i < n) (hn : n ≤ 2147483648) : aR (mk z) a (I i) = f i.toNat := by
  unfold aR
  rw [mk_get h, hz]
  dsimp only
  rw [if_pos ⟨ht, I_in h0 h1 hn⟩, I_nat (by omega) (by omega)]
theorem rd_aN {x : (Nat → Int32) ⊕ (Nat → Int64) ⊕ (Nat → UInt32) ⊕ (Nat → UInt64) ⊕ (Nat → Option Nat)} {t : Nat} (h : shp[a]? = some g) (hz : zc z g = .inl (t, n, x)) (ht : t < 10) : aN (mk z) a = some (I n) := by
  unfold aN
  rw [mk_get h, hz]
  dsimp only
  rw [if_pos ht]
  rfl
theorem wr_sI {t : Nat} {f : Nat → Int32} {i : Int} {x : Int32} (h : shp[a]? = some g) (hz : zc z g = .inl (t, n, .inl f)) (h0 : 0 ≤ i) (h1 : i < n) (hn : n ≤ 2147483648) (h2 : ∀ g', adr g' ≠ adr g → zc z' g' = zc z g') (h3 : zc z' g = .inl (t, n, .inl (upd f i.toNat (nrT t x)))) : sI t (mk z) a (I i) x = some (mk z') := by
  unfold sI
  rw [mk_get h, hz]
  dsimp only
  rw [if_pos ⟨rfl, I_in h0 h1 hn⟩, I_nat (by omega) (by omega), mk_set h h2 h3]
theorem wr_sJ {f : Nat → Int64} {i : Int} {x : Int64} (h : shp[a]? = some g) (hz : zc z g = .inl (1, n, .inr (.inl f))) (h0 : 0 ≤ i) (h1 : i < n) (hn : n ≤ 2147483648) (h2 : ∀ g', adr g' ≠ adr g → zc z' g' = zc z g') (h3 : zc z' g = .inl (1, n, .inr (.inl (vp_updL f i.toNat x)))) : sJ (mk z) a (I i) x = some (mk z') := by
  unfold sJ
  rw [mk_get h, hz]
  dsimp only
  rw [if_pos ⟨rfl, I_in h0 h1 hn⟩, I_nat (by omega) (by omega), mk_set h h2 h3]
theorem wr_sR {t q : Nat} {f : Nat → Option Nat} {g2 : Nat × Nat} {i : Int} (h : shp[a]? = some g) (hz : zc z g = .inl (t, n, .inr (.inr (.inr (.inr f))))) (hq : shp[q]? = some g2) (hz2 : zc z g2 = .inr (ci, fs)) (ht : 4 ≤ t ∧ t < 10 ∧ tcl t = ci) (h0 : 0 ≤ i) (h1 : i < n) (hn : n ≤ 2147483648) (h2 : ∀ g', adr g' ≠ adr g → zc z' g' = zc z g') (h3 : zc z' g = .inl (t, n, .inr (.inr (.inr (.inr (va_up f i.toNat (some q))))))) : sR (mk z) a (I i) q = some (mk z') := by
  unfold sR
  rw [mk_get h, mk_get hq, hz, hz2]
  dsimp only
  rw [if_pos ⟨ht, I_in h0 h1 hn⟩, I_nat (by omega) (by omega), mk_set h h2 h3]
end
abbrev isText (a : Nat) : Prop := shp[a]? = some (0, a)
theorem alText {P : Nat → Bool} (hp : shp.all (fun g => if g.1 = 0 then P g.2 else true) = true) {a : Nat} (h : isText a) : P a = true := by
  have := List.all_eq_true.mp hp _ (List.mem_of_getElem? h)
  rwa [if_pos rfl] at this
abbrev isProg (a : Nat) : Prop := shp[a]? = some (1, a)
theorem alProg {P : Nat → Bool} (hp : shp.all (fun g => if g.1 = 1 then P g.2 else true) = true) {a : Nat} (h : isProg a) : P a = true := by
  have := List.all_eq_true.mp hp _ (List.mem_of_getElem? h)
  rwa [if_pos rfl] at this
abbrev isLearnt (a : Nat) : Prop := shp[a]? = some (2, a)
theorem alLearnt {P : Nat → Bool} (hp : shp.all (fun g => if g.1 = 2 then P g.2 else true) = true) {a : Nat} (h : isLearnt a) : P a = true := by
  have := List.all_eq_true.mp hp _ (List.mem_of_getElem? h)
  rwa [if_pos rfl] at this
abbrev isLine (a : Nat) : Prop := shp[a]? = some (3, a)
theorem alLine {P : Nat → Bool} (hp : shp.all (fun g => if g.1 = 3 then P g.2 else true) = true) {a : Nat} (h : isLine a) : P a = true := by
  have := List.all_eq_true.mp hp _ (List.mem_of_getElem? h)
  rwa [if_pos rfl] at this
abbrev isTask (a : Nat) : Prop := shp[a]? = some (4, a)
theorem alTask {P : Nat → Bool} (hp : shp.all (fun g => if g.1 = 4 then P g.2 else true) = true) {a : Nat} (h : isTask a) : P a = true := by
  have := List.all_eq_true.mp hp _ (List.mem_of_getElem? h)
  rwa [if_pos rfl] at this
abbrev isBoard (a : Nat) : Prop := shp[a]? = some (5, a)
theorem alBoard {P : Nat → Bool} (hp : shp.all (fun g => if g.1 = 5 then P g.2 else true) = true) {a : Nat} (h : isBoard a) : P a = true := by
  have := List.all_eq_true.mp hp _ (List.mem_of_getElem? h)
  rwa [if_pos rfl] at this
theorem tgText_signs {a : Nat} (h : isText a) : shp[aText_signs a]? = some (11, a) := of_decide_eq_true (alText (P := fun a => decide (shp[aText_signs a]? = some (11, a))) (by decide +kernel) h)
theorem tgText_placesOf {a : Nat} (h : isText a) : shp[aText_placesOf a]? = some (12, a) := of_decide_eq_true (alText (P := fun a => decide (shp[aText_placesOf a]? = some (12, a))) (by decide +kernel) h)
theorem tgProg_atoms {a : Nat} (h : isProg a) : shp[aProg_atoms a]? = some (13, a) := of_decide_eq_true (alProg (P := fun a => decide (shp[aProg_atoms a]? = some (13, a))) (by decide +kernel) h)
theorem tgLine_steps {a : Nat} (h : isLine a) : shp[aLine_steps a]? = some (14, a) := of_decide_eq_true (alLine (P := fun a => decide (shp[aLine_steps a]? = some (14, a))) (by decide +kernel) h)
theorem tgTask_was {a : Nat} (h : isTask a) : shp[aTask_was a]? = some (15, a) := of_decide_eq_true (alTask (P := fun a => decide (shp[aTask_was a]? = some (15, a))) (by decide +kernel) h)
theorem tgTask_shown {a : Nat} (h : isTask a) : shp[aTask_shown a]? = some (16, a) := of_decide_eq_true (alTask (P := fun a => decide (shp[aTask_shown a]? = some (16, a))) (by decide +kernel) h)
theorem tgTask_lineOf {a : Nat} (h : isTask a) : shp[aTask_lineOf a]? = some (17, a) := of_decide_eq_true (alTask (P := fun a => decide (shp[aTask_lineOf a]? = some (17, a))) (by decide +kernel) h)
theorem tgTask_refusedOf {a : Nat} (h : isTask a) : shp[aTask_refusedOf a]? = some (18, a) := of_decide_eq_true (alTask (P := fun a => decide (shp[aTask_refusedOf a]? = some (18, a))) (by decide +kernel) h)
theorem tgTask_refused {a : Nat} (h : isTask a) : shp[aTask_refused a]? = some (19, a) := of_decide_eq_true (alTask (P := fun a => decide (shp[aTask_refused a]? = some (19, a))) (by decide +kernel) h)
theorem tgTask_pins {a : Nat} (h : isTask a) : shp[aTask_pins a]? = some (20, a) := of_decide_eq_true (alTask (P := fun a => decide (shp[aTask_pins a]? = some (20, a))) (by decide +kernel) h)
theorem tgTask_best {a : Nat} (h : isTask a) : shp[aTask_best a]? = some (21, a) := of_decide_eq_true (alTask (P := fun a => decide (shp[aTask_best a]? = some (21, a))) (by decide +kernel) h)
theorem tgBoard_spots {a : Nat} (h : isBoard a) : shp[aBoard_spots a]? = some (22, a) := of_decide_eq_true (alBoard (P := fun a => decide (shp[aBoard_spots a]? = some (22, a))) (by decide +kernel) h)
theorem tgBoard_placesOfSign {a : Nat} (h : isBoard a) : shp[aBoard_placesOfSign a]? = some (23, a) := of_decide_eq_true (alBoard (P := fun a => decide (shp[aBoard_placesOfSign a]? = some (23, a))) (by decide +kernel) h)
theorem tgBoard_cutPlaces {a : Nat} (h : isBoard a) : shp[aBoard_cutPlaces a]? = some (24, a) := of_decide_eq_true (alBoard (P := fun a => decide (shp[aBoard_cutPlaces a]? = some (24, a))) (by decide +kernel) h)
theorem tgBoard_eachPlaces {a : Nat} (h : isBoard a) : shp[aBoard_eachPlaces a]? = some (25, a) := of_decide_eq_true (alBoard (P := fun a => decide (shp[aBoard_eachPlaces a]? = some (25, a))) (by decide +kernel) h)
theorem tgBoard_eachSizes {a : Nat} (h : isBoard a) : shp[aBoard_eachSizes a]? = some (26, a) := of_decide_eq_true (alBoard (P := fun a => decide (shp[aBoard_eachSizes a]? = some (26, a))) (by decide +kernel) h)
theorem tgFinder_found : shp[aFinder_found]? = some (27, 0) := by decide +kernel
theorem tgFinder_pins : shp[aFinder_pins]? = some (34, 513) := by decide +kernel
theorem tgFinder_pinIndexes : shp[aFinder_pinIndexes]? = some (34, 514) := by decide +kernel
theorem tgFinder_ways : shp[aFinder_ways]? = some (35, 515) := by decide +kernel
theorem tgFinder_knownKeys : shp[aFinder_knownKeys]? = some (35, 516) := by decide +kernel
theorem tgFinder_knownEndings : shp[aFinder_knownEndings]? = some (35, 517) := by decide +kernel
theorem tgFinder_at_ : shp[aFinder_at_]? = some (34, 518) := by decide +kernel
theorem tgFinder_row : shp[aFinder_row]? = some (34, 519) := by decide +kernel
theorem tgFinder : shp[aFinder]? = some (6, 0) := by decide +kernel
theorem tgStock_boards : shp[aStock_boards]? = some (28, 0) := by decide +kernel
theorem tgStock_members : shp[aStock_members]? = some (29, 0) := by decide +kernel
theorem tgStock_atoms : shp[aStock_atoms]? = some (34, 444) := by decide +kernel
theorem tgStock_weights : shp[aStock_weights]? = some (34, 445) := by decide +kernel
theorem tgStock_places : shp[aStock_places]? = some (34, 446) := by decide +kernel
theorem tgStock_sizes : shp[aStock_sizes]? = some (34, 447) := by decide +kernel
theorem tgStock_shared : shp[aStock_shared]? = some (34, 448) := by decide +kernel
theorem tgStock_groups : shp[aStock_groups]? = some (34, 449) := by decide +kernel
theorem tgStock_groupWeights : shp[aStock_groupWeights]? = some (34, 450) := by decide +kernel
theorem tgStock_newest : shp[aStock_newest]? = some (34, 451) := by decide +kernel
theorem tgStock_older : shp[aStock_older]? = some (34, 452) := by decide +kernel
theorem tgStock : shp[aStock]? = some (7, 0) := by decide +kernel
theorem tgLearner_chosen : shp[aLearner_chosen]? = some (30, 0) := by decide +kernel
theorem tgLearner_tried : shp[aLearner_tried]? = some (34, 531) := by decide +kernel
theorem tgLearner : shp[aLearner]? = some (8, 0) := by decide +kernel
theorem tgScript_tasks : shp[aScript_tasks]? = some (31, 0) := by decide +kernel
theorem tgScript_lines : shp[aScript_lines]? = some (32, 0) := by decide +kernel
theorem tgScript_ranBy : shp[aScript_ranBy]? = some (33, 0) := by decide +kernel
theorem tgScript_runCounts : shp[aScript_runCounts]? = some (34, 437) := by decide +kernel
theorem tgScript : shp[aScript]? = some (9, 0) := by decide +kernel
theorem tgModel_draft : shp[aModel_draft]? = some (34, 571) := by decide +kernel
theorem tgModel_came : shp[aModel_came]? = some (34, 572) := by decide +kernel
theorem tgModel_cameSize : shp[aModel_cameSize]? = some (34, 573) := by decide +kernel
theorem tgModel_steps : shp[aModel_steps]? = some (34, 574) := by decide +kernel
theorem tgModel_step : shp[aModel_step]? = some (34, 575) := by decide +kernel
theorem tgModel_examples : shp[aModel_examples]? = some (34, 576) := by decide +kernel
theorem tgModel_shownOn : shp[aModel_shownOn]? = some (34, 577) := by decide +kernel
theorem tgModel_example_ : shp[aModel_example_]? = some (34, 578) := by decide +kernel
theorem tgModel_exampleSize : shp[aModel_exampleSize]? = some (34, 579) := by decide +kernel
theorem tgModel_shown : shp[aModel_shown]? = some (34, 580) := by decide +kernel
theorem tgModel_shownSize : shp[aModel_shownSize]? = some (34, 581) := by decide +kernel
theorem tgModel_refusals : shp[aModel_refusals]? = some (34, 582) := by decide +kernel
theorem tgModel_refusal : shp[aModel_refusal]? = some (34, 583) := by decide +kernel
theorem tgModel_refusalSize : shp[aModel_refusalSize]? = some (34, 584) := by decide +kernel
theorem tgModel_refused : shp[aModel_refused]? = some (34, 585) := by decide +kernel
theorem tgModel_refusedSize : shp[aModel_refusedSize]? = some (34, 586) := by decide +kernel
theorem tgModel_pinKind : shp[aModel_pinKind]? = some (34, 587) := by decide +kernel
theorem tgModel_pinA : shp[aModel_pinA]? = some (34, 588) := by decide +kernel
theorem tgModel_pinB : shp[aModel_pinB]? = some (34, 589) := by decide +kernel
theorem tgModel_pinC : shp[aModel_pinC]? = some (34, 590) := by decide +kernel
theorem tgModel_pinSign : shp[aModel_pinSign]? = some (34, 591) := by decide +kernel
theorem tgModel_hasLearnt : shp[aModel_hasLearnt]? = some (34, 592) := by decide +kernel
theorem tgModel_conditionOf : shp[aModel_conditionOf]? = some (34, 593) := by decide +kernel
theorem tgModel_isStanding : shp[aModel_isStanding]? = some (34, 594) := by decide +kernel
theorem tgModel_isUndone : shp[aModel_isUndone]? = some (34, 595) := by decide +kernel
theorem tgModel_runCondition : shp[aModel_runCondition]? = some (34, 596) := by decide +kernel
theorem tgModel_atoms : shp[aModel_atoms]? = some (34, 597) := by decide +kernel
theorem tgModel_weightOf : shp[aModel_weightOf]? = some (34, 598) := by decide +kernel
theorem tgModel_kind : shp[aModel_kind]? = some (34, 599) := by decide +kernel
theorem tgModel_a : shp[aModel_a]? = some (34, 600) := by decide +kernel
theorem tgModel_b : shp[aModel_b]? = some (34, 601) := by decide +kernel
theorem tgModel_c : shp[aModel_c]? = some (34, 602) := by decide +kernel
theorem tgModel_sign : shp[aModel_sign]? = some (34, 603) := by decide +kernel
theorem tgModel_setState : shp[aModel_setState]? = some (34, 604) := by decide +kernel
theorem tgModel_text : shp[aModel_text]? = some (34, 605) := by decide +kernel
theorem tgModel_runsOf : shp[aModel_runsOf]? = some (34, 606) := by decide +kernel
theorem tgModel_runAt : shp[aModel_runAt]? = some (34, 607) := by decide +kernel
theorem tgModel_runEnd : shp[aModel_runEnd]? = some (34, 608) := by decide +kernel
theorem tgModel_making : shp[aModel_making]? = some (34, 609) := by decide +kernel
theorem tgModel_constSign : shp[aModel_constSign]? = some (34, 610) := by decide +kernel
theorem tgModel_constSize : shp[aModel_constSize]? = some (34, 611) := by decide +kernel
theorem tgModel_match_ : shp[aModel_match_]? = some (34, 612) := by decide +kernel
theorem tgModel_length : shp[aModel_length]? = some (34, 613) := by decide +kernel
theorem tgModel_weight : shp[aModel_weight]? = some (34, 614) := by decide +kernel
theorem tgModel_valid : shp[aModel_valid]? = some (34, 615) := by decide +kernel
theorem tgModel_in_ : shp[aModel_in_]? = some (34, 616) := by decide +kernel
theorem tgModel_stride : shp[aModel_stride]? = some (34, 617) := by decide +kernel
theorem tgModel_radix : shp[aModel_radix]? = some (34, 618) := by decide +kernel
theorem tgModel_one : shp[aModel_one]? = some (34, 619) := by decide +kernel
theorem tgModel_two : shp[aModel_two]? = some (34, 620) := by decide +kernel
theorem tgModel_mark : shp[aModel_mark]? = some (34, 621) := by decide +kernel
theorem tgModel_three : shp[aModel_three]? = some (35, 622) := by decide +kernel
theorem tgModel_pinned : shp[aModel_pinned]? = some (34, 623) := by decide +kernel
theorem tgModel_at_ : shp[aModel_at_]? = some (34, 624) := by decide +kernel
theorem tgModel_chosen : shp[aModel_chosen]? = some (34, 625) := by decide +kernel
theorem tgModel_left : shp[aModel_left]? = some (34, 626) := by decide +kernel
theorem tgModel_found : shp[aModel_found]? = some (34, 627) := by decide +kernel
theorem tgModel_foundWeight : shp[aModel_foundWeight]? = some (34, 628) := by decide +kernel
theorem tgModel_foundAtom : shp[aModel_foundAtom]? = some (34, 629) := by decide +kernel
theorem tgModel_taken : shp[aModel_taken]? = some (34, 630) := by decide +kernel
theorem tgModel_other : shp[aModel_other]? = some (34, 631) := by decide +kernel
theorem tgModel : shp[aModel]? = some (10, 0) := by decide +kernel
abbrev aOut : Nat := 632
theorem tgOut : shp[aOut]? = some (35, 632) := by decide +kernel
theorem is_Learnt_first {a : Nat} (h : isLearnt a) : isProg (aLearnt_first a) := of_decide_eq_true (alLearnt (P := fun a => decide (shp[aLearnt_first a]? = some (1, aLearnt_first a))) (by decide +kernel) h)
theorem is_Learnt_second {a : Nat} (h : isLearnt a) : isProg (aLearnt_second a) := of_decide_eq_true (alLearnt (P := fun a => decide (shp[aLearnt_second a]? = some (1, aLearnt_second a))) (by decide +kernel) h)
theorem is_Line_came {a : Nat} (h : isLine a) : isText (aLine_came a) := of_decide_eq_true (alLine (P := fun a => decide (shp[aLine_came a]? = some (0, aLine_came a))) (by decide +kernel) h)
theorem is_Line_now {a : Nat} (h : isLine a) : isText (aLine_now a) := of_decide_eq_true (alLine (P := fun a => decide (shp[aLine_now a]? = some (0, aLine_now a))) (by decide +kernel) h)
theorem is_eTask_was {a i : Nat} (h : isTask a) (hi : i < 4) : isText (eTask_was a i) := of_decide_eq_true (List.all_eq_true.mp (alTask (P := fun a => (List.range 4).all (fun i => decide (shp[eTask_was a i]? = some (0, eTask_was a i)))) (by decide +kernel) h) i (List.mem_range.mpr hi))
theorem is_eTask_shown {a i : Nat} (h : isTask a) (hi : i < 4) : isText (eTask_shown a i) := of_decide_eq_true (List.all_eq_true.mp (alTask (P := fun a => (List.range 4).all (fun i => decide (shp[eTask_shown a i]? = some (0, eTask_shown a i)))) (by decide +kernel) h) i (List.mem_range.mpr hi))
theorem is_eTask_refusedOf {a i : Nat} (h : isTask a) (hi : i < 4) : isText (eTask_refusedOf a i) := of_decide_eq_true (List.all_eq_true.mp (alTask (P := fun a => (List.range 4).all (fun i => decide (shp[eTask_refusedOf a i]? = some (0, eTask_refusedOf a i)))) (by decide +kernel) h) i (List.mem_range.mpr hi))
theorem is_eTask_refused {a i : Nat} (h : isTask a) (hi : i < 4) : isText (eTask_refused a i) := of_decide_eq_true (List.all_eq_true.mp (alTask (P := fun a => (List.range 4).all (fun i => decide (shp[eTask_refused a i]? = some (0, eTask_refused a i)))) (by decide +kernel) h) i (List.mem_range.mpr hi))
theorem is_Task_learnt {a : Nat} (h : isTask a) : isLearnt (aTask_learnt a) := of_decide_eq_true (alTask (P := fun a => decide (shp[aTask_learnt a]? = some (2, aTask_learnt a))) (by decide +kernel) h)
theorem is_eTask_best {a i : Nat} (h : isTask a) (hi : i < 5) : isProg (eTask_best a i) := of_decide_eq_true (List.all_eq_true.mp (alTask (P := fun a => (List.range 5).all (fun i => decide (shp[eTask_best a i]? = some (1, eTask_best a i)))) (by decide +kernel) h) i (List.mem_range.mpr hi))
theorem is_Board_was {a : Nat} (h : isBoard a) : isText (aBoard_was a) := of_decide_eq_true (alBoard (P := fun a => decide (shp[aBoard_was a]? = some (0, aBoard_was a))) (by decide +kernel) h)
theorem is_Board_shown {a : Nat} (h : isBoard a) : isText (aBoard_shown a) := of_decide_eq_true (alBoard (P := fun a => decide (shp[aBoard_shown a]? = some (0, aBoard_shown a))) (by decide +kernel) h)
theorem is_Board_made {a : Nat} (h : isBoard a) : isText (aBoard_made a) := of_decide_eq_true (alBoard (P := fun a => decide (shp[aBoard_made a]? = some (0, aBoard_made a))) (by decide +kernel) h)
theorem is_eFinder_found {i : Nat} (hi : i < 5) : isProg (eFinder_found i) := of_decide_eq_true (List.all_eq_true.mp (by decide +kernel : (List.range 5).all (fun i => decide (shp[eFinder_found i]? = some (1, eFinder_found i))) = true) i (List.mem_range.mpr hi))
theorem is_eStock_boards {i : Nat} (hi : i < 4) : isBoard (eStock_boards i) := of_decide_eq_true (List.all_eq_true.mp (by decide +kernel : (List.range 4).all (fun i => decide (shp[eStock_boards i]? = some (5, eStock_boards i))) = true) i (List.mem_range.mpr hi))
theorem is_eLearner_chosen {i : Nat} (hi : i < 16) : isProg (eLearner_chosen i) := of_decide_eq_true (List.all_eq_true.mp (by decide +kernel : (List.range 16).all (fun i => decide (shp[eLearner_chosen i]? = some (1, eLearner_chosen i))) = true) i (List.mem_range.mpr hi))
theorem is_Learner_made : isText aLearner_made := by decide +kernel
theorem is_Learner_madeFirst : isText aLearner_madeFirst := by decide +kernel
theorem is_Script_draft : isText aScript_draft := by decide +kernel
theorem is_Script_made : isText aScript_made := by decide +kernel
theorem is_eScript_tasks {i : Nat} (hi : i < 3) : isTask (eScript_tasks i) := of_decide_eq_true (List.all_eq_true.mp (by decide +kernel : (List.range 3).all (fun i => decide (shp[eScript_tasks i]? = some (4, eScript_tasks i))) = true) i (List.mem_range.mpr hi))
theorem is_eScript_lines {i : Nat} (hi : i < 8) : isLine (eScript_lines i) := of_decide_eq_true (List.all_eq_true.mp (by decide +kernel : (List.range 8).all (fun i => decide (shp[eScript_lines i]? = some (3, eScript_lines i))) = true) i (List.mem_range.mpr hi))
theorem is_eScript_ranBy {i : Nat} (hi : i < 30) : isLearnt (eScript_ranBy i) := of_decide_eq_true (List.all_eq_true.mp (by decide +kernel : (List.range 30).all (fun i => decide (shp[eScript_ranBy i]? = some (2, eScript_ranBy i))) = true) i (List.mem_range.mpr hi))
section
variable {tx : Nat → ZText} {pg : Nat → ZProg} {le : Nat → ZLearnt} {ln : Nat → ZLine} {tk : Nat → ZTask} {bd : Nat → ZBoard} {vi : Nat → Int32} {va : Nat → Nat → Int32} {vl : Nat → Nat → Int64} {vj : Int64} {la : Option Nat} {me : Nat → Option Nat}
theorem neText_o {a : Nat} {w : ZText} (h_signs : w.1 = (tx a).1) (h_placesOf : w.2.1 = (tx a).2.1) : ∀ g', adr g' ≠ adr (0, a) → zc (up tx a w, pg, le, ln, tk, bd, vi, va, vl, vj, la, me) g' = zc (tx, pg, le, ln, tk, bd, vi, va, vl, vj, la, me) g' := by
  intro g' hg
  obtain ⟨k, b⟩ := g'
  match k with
  | 0 => 
    have hb : b ≠ a := fun q => hg (by rw [q])
    unfold zc
    dsimp only
    rw [up_ne hb]
  | 1 => exact rfl
  | 2 => exact rfl
  | 3 => exact rfl
  | 4 => exact rfl
  | 5 => exact rfl
  | 6 => exact rfl
  | 7 => exact rfl
  | 8 => exact rfl
  | 9 => exact rfl
  | 10 => exact rfl
  | 11 => 
    unfold zc
    dsimp only
    by_cases hb : b = a
    · rw [hb, up_same]
      simp only [h_signs]
    · rw [up_ne hb]
  | 12 => 
    unfold zc
    dsimp only
    by_cases hb : b = a
    · rw [hb, up_same]
      simp only [h_placesOf]
    · rw [up_ne hb]
  | 13 => exact rfl
  | 14 => exact rfl
  | 15 => exact rfl
  | 16 => exact rfl
  | 17 => exact rfl
  | 18 => exact rfl
  | 19 => exact rfl
  | 20 => exact rfl
  | 21 => exact rfl
  | 22 => exact rfl
  | 23 => exact rfl
  | 24 => exact rfl
  | 25 => exact rfl
  | 26 => exact rfl
  | 27 => exact rfl
  | 28 => exact rfl
  | 29 => exact rfl
  | 30 => exact rfl
  | 31 => exact rfl
  | 32 => exact rfl
  | 33 => exact rfl
  | 34 => exact rfl
  | k + 35 => exact rfl
theorem eqText_o {a : Nat} {w : ZText} : zc (up tx a w, pg, le, ln, tk, bd, vi, va, vl, vj, la, me) (0, a) = zc ((fun _ => w), pg, le, ln, tk, bd, vi, va, vl, vj, la, me) (0, a) := by
  unfold zc
  dsimp only
  rw [up_same]
theorem neText_signs {a : Nat} {w : ZText} (h_size : w.2.2 = (tx a).2.2) (h_placesOf : w.2.1 = (tx a).2.1) : ∀ g', adr g' ≠ adr (11, a) → zc (up tx a w, pg, le, ln, tk, bd, vi, va, vl, vj, la, me) g' = zc (tx, pg, le, ln, tk, bd, vi, va, vl, vj, la, me) g' := by
  intro g' hg
  obtain ⟨k, b⟩ := g'
  match k with
  | 0 => 
    unfold zc
    dsimp only
    by_cases hb : b = a
    · rw [hb, up_same]
      simp only [h_size]
    · rw [up_ne hb]
  | 1 => exact rfl
  | 2 => exact rfl
  | 3 => exact rfl
  | 4 => exact rfl
  | 5 => exact rfl
  | 6 => exact rfl
  | 7 => exact rfl
  | 8 => exact rfl
  | 9 => exact rfl
  | 10 => exact rfl
  | 11 => 
    have hb : b ≠ a := fun q => hg (by rw [q])
    unfold zc
    dsimp only
    rw [up_ne hb]
  | 12 => 
    unfold zc
    dsimp only
    by_cases hb : b = a
    · rw [hb, up_same]
      simp only [h_placesOf]
    · rw [up_ne hb]
  | 13 => exact rfl
  | 14 => exact rfl
  | 15 => exact rfl
  | 16 => exact rfl
  | 17 => exact rfl
  | 18 => exact rfl
  | 19 => exact rfl
  | 20 => exact rfl
  | 21 => exact rfl
  | 22 => exact rfl
  | 23 => exact rfl
  | 24 => exact rfl
  | 25 => exact rfl
  | 26 => exact rfl
  | 27 => exact rfl
  | 28 => exact rfl
  | 29 => exact rfl
  | 30 => exact rfl
  | 31 => exact rfl
  | 32 => exact rfl
  | 33 => exact rfl
  | 34 => exact rfl
  | k + 35 => exact rfl
theorem eqText_signs {a : Nat} {w : ZText} : zc (up tx a w, pg, le, ln, tk, bd, vi, va, vl, vj, la, me) (11, a) = zc ((fun _ => w), pg, le, ln, tk, bd, vi, va, vl, vj, la, me) (11, a) := by
  unfold zc
  dsimp only
  rw [up_same]
theorem neText_placesOf {a : Nat} {w : ZText} (h_size : w.2.2 = (tx a).2.2) (h_signs : w.1 = (tx a).1) : ∀ g', adr g' ≠ adr (12, a) → zc (up tx a w, pg, le, ln, tk, bd, vi, va, vl, vj, la, me) g' = zc (tx, pg, le, ln, tk, bd, vi, va, vl, vj, la, me) g' := by
  intro g' hg
  obtain ⟨k, b⟩ := g'
  match k with
  | 0 => 
    unfold zc
    dsimp only
    by_cases hb : b = a
    · rw [hb, up_same]
      simp only [h_size]
    · rw [up_ne hb]
  | 1 => exact rfl
  | 2 => exact rfl
  | 3 => exact rfl
  | 4 => exact rfl
  | 5 => exact rfl
  | 6 => exact rfl
  | 7 => exact rfl
  | 8 => exact rfl
  | 9 => exact rfl
  | 10 => exact rfl
  | 11 => 
    unfold zc
    dsimp only
    by_cases hb : b = a
    · rw [hb, up_same]
      simp only [h_signs]
    · rw [up_ne hb]
  | 12 => 
    have hb : b ≠ a := fun q => hg (by rw [q])
    unfold zc
    dsimp only
    rw [up_ne hb]
  | 13 => exact rfl
  | 14 => exact rfl
  | 15 => exact rfl
  | 16 => exact rfl
  | 17 => exact rfl
  | 18 => exact rfl
  | 19 => exact rfl
  | 20 => exact rfl
  | 21 => exact rfl
  | 22 => exact rfl
  | 23 => exact rfl
  | 24 => exact rfl
  | 25 => exact rfl
  | 26 => exact rfl
  | 27 => exact rfl
  | 28 => exact rfl
  | 29 => exact rfl
  | 30 => exact rfl
  | 31 => exact rfl
  | 32 => exact rfl
  | 33 => exact rfl
  | 34 => exact rfl
  | k + 35 => exact rfl
theorem eqText_placesOf {a : Nat} {w : ZText} : zc (up tx a w, pg, le, ln, tk, bd, vi, va, vl, vj, la, me) (12, a) = zc ((fun _ => w), pg, le, ln, tk, bd, vi, va, vl, vj, la, me) (12, a) := by
  unfold zc
  dsimp only
  rw [up_same]
theorem neProg_o {a : Nat} {w : ZProg} (h_atoms : w.1 = (pg a).1) : ∀ g', adr g' ≠ adr (1, a) → zc (tx, up pg a w, le, ln, tk, bd, vi, va, vl, vj, la, me) g' = zc (tx, pg, le, ln, tk, bd, vi, va, vl, vj, la, me) g' := by
  intro g' hg
  obtain ⟨k, b⟩ := g'
  match k with
  | 0 => exact rfl
  | 1 => 
    have hb : b ≠ a := fun q => hg (by rw [q])
    unfold zc
    dsimp only
    rw [up_ne hb]
  | 2 => exact rfl
  | 3 => exact rfl
  | 4 => exact rfl
  | 5 => exact rfl
  | 6 => exact rfl
  | 7 => exact rfl
  | 8 => exact rfl
  | 9 => exact rfl
  | 10 => exact rfl
  | 11 => exact rfl
  | 12 => exact rfl
  | 13 => 
    unfold zc
    dsimp only
    by_cases hb : b = a
    · rw [hb, up_same]
      simp only [h_atoms]
    · rw [up_ne hb]
  | 14 => exact rfl
  | 15 => exact rfl
  | 16 => exact rfl
  | 17 => exact rfl
  | 18 => exact rfl
  | 19 => exact rfl
  | 20 => exact rfl
  | 21 => exact rfl
  | 22 => exact rfl
  | 23 => exact rfl
  | 24 => exact rfl
  | 25 => exact rfl
  | 26 => exact rfl
  | 27 => exact rfl
  | 28 => exact rfl
  | 29 => exact rfl
  | 30 => exact rfl
  | 31 => exact rfl
  | 32 => exact rfl
  | 33 => exact rfl
  | 34 => exact rfl
  | k + 35 => exact rfl
theorem eqProg_o {a : Nat} {w : ZProg} : zc (tx, up pg a w, le, ln, tk, bd, vi, va, vl, vj, la, me) (1, a) = zc (tx, (fun _ => w), le, ln, tk, bd, vi, va, vl, vj, la, me) (1, a) := by
  unfold zc
  dsimp only
  rw [up_same]
theorem neProg_atoms {a : Nat} {w : ZProg} (h_size : w.2 = (pg a).2) : ∀ g', adr g' ≠ adr (13, a) → zc (tx, up pg a w, le, ln, tk, bd, vi, va, vl, vj, la, me) g' = zc (tx, pg, le, ln, tk, bd, vi, va, vl, vj, la, me) g' := by
  intro g' hg
  obtain ⟨k, b⟩ := g'
  match k with
  | 0 => exact rfl
  | 1 => 
    unfold zc
    dsimp only
    by_cases hb : b = a
    · rw [hb, up_same]
      simp only [h_size]
    · rw [up_ne hb]
  | 2 => exact rfl
  | 3 => exact rfl
  | 4 => exact rfl
  | 5 => exact rfl
  | 6 => exact rfl
  | 7 => exact rfl
  | 8 => exact rfl
  | 9 => exact rfl
  | 10 => exact rfl
  | 11 => exact rfl
  | 12 => exact rfl
  | 13 => 
    have hb : b ≠ a := fun q => hg (by rw [q])
    unfold zc
    dsimp only
    rw [up_ne hb]
  | 14 => exact rfl
  | 15 => exact rfl
  | 16 => exact rfl
  | 17 => exact rfl
  | 18 => exact rfl
  | 19 => exact rfl
  | 20 => exact rfl
  | 21 => exact rfl
  | 22 => exact rfl
  | 23 => exact rfl
  | 24 => exact rfl
  | 25 => exact rfl
  | 26 => exact rfl
  | 27 => exact rfl
  | 28 => exact rfl
  | 29 => exact rfl
  | 30 => exact rfl
  | 31 => exact rfl
  | 32 => exact rfl
  | 33 => exact rfl
  | 34 => exact rfl
  | k + 35 => exact rfl
theorem eqProg_atoms {a : Nat} {w : ZProg} : zc (tx, up pg a w, le, ln, tk, bd, vi, va, vl, vj, la, me) (13, a) = zc (tx, (fun _ => w), le, ln, tk, bd, vi, va, vl, vj, la, me) (13, a) := by
  unfold zc
  dsimp only
  rw [up_same]
theorem neLearnt_o {a : Nat} {w : ZLearnt}  : ∀ g', adr g' ≠ adr (2, a) → zc (tx, pg, up le a w, ln, tk, bd, vi, va, vl, vj, la, me) g' = zc (tx, pg, le, ln, tk, bd, vi, va, vl, vj, la, me) g' := by
  intro g' hg
  obtain ⟨k, b⟩ := g'
  match k with
  | 0 => exact rfl
  | 1 => exact rfl
  | 2 => 
    have hb : b ≠ a := fun q => hg (by rw [q])
    unfold zc
    dsimp only
    rw [up_ne hb]
  | 3 => exact rfl
  | 4 => exact rfl
  | 5 => exact rfl
  | 6 => exact rfl
  | 7 => exact rfl
  | 8 => exact rfl
  | 9 => exact rfl
  | 10 => exact rfl
  | 11 => exact rfl
  | 12 => exact rfl
  | 13 => exact rfl
  | 14 => exact rfl
  | 15 => exact rfl
  | 16 => exact rfl
  | 17 => exact rfl
  | 18 => exact rfl
  | 19 => exact rfl
  | 20 => exact rfl
  | 21 => exact rfl
  | 22 => exact rfl
  | 23 => exact rfl
  | 24 => exact rfl
  | 25 => exact rfl
  | 26 => exact rfl
  | 27 => exact rfl
  | 28 => exact rfl
  | 29 => exact rfl
  | 30 => exact rfl
  | 31 => exact rfl
  | 32 => exact rfl
  | 33 => exact rfl
  | 34 => exact rfl
  | k + 35 => exact rfl
theorem eqLearnt_o {a : Nat} {w : ZLearnt} : zc (tx, pg, up le a w, ln, tk, bd, vi, va, vl, vj, la, me) (2, a) = zc (tx, pg, (fun _ => w), ln, tk, bd, vi, va, vl, vj, la, me) (2, a) := by
  unfold zc
  dsimp only
  rw [up_same]
theorem neLine_o {a : Nat} {w : ZLine} (h_steps : w.1 = (ln a).1) : ∀ g', adr g' ≠ adr (3, a) → zc (tx, pg, le, up ln a w, tk, bd, vi, va, vl, vj, la, me) g' = zc (tx, pg, le, ln, tk, bd, vi, va, vl, vj, la, me) g' := by
  intro g' hg
  obtain ⟨k, b⟩ := g'
  match k with
  | 0 => exact rfl
  | 1 => exact rfl
  | 2 => exact rfl
  | 3 => 
    have hb : b ≠ a := fun q => hg (by rw [q])
    unfold zc
    dsimp only
    rw [up_ne hb]
  | 4 => exact rfl
  | 5 => exact rfl
  | 6 => exact rfl
  | 7 => exact rfl
  | 8 => exact rfl
  | 9 => exact rfl
  | 10 => exact rfl
  | 11 => exact rfl
  | 12 => exact rfl
  | 13 => exact rfl
  | 14 => 
    unfold zc
    dsimp only
    by_cases hb : b = a
    · rw [hb, up_same]
      simp only [h_steps]
    · rw [up_ne hb]
  | 15 => exact rfl
  | 16 => exact rfl
  | 17 => exact rfl
  | 18 => exact rfl
  | 19 => exact rfl
  | 20 => exact rfl
  | 21 => exact rfl
  | 22 => exact rfl
  | 23 => exact rfl
  | 24 => exact rfl
  | 25 => exact rfl
  | 26 => exact rfl
  | 27 => exact rfl
  | 28 => exact rfl
  | 29 => exact rfl
  | 30 => exact rfl
  | 31 => exact rfl
  | 32 => exact rfl
  | 33 => exact rfl
  | 34 => exact rfl
  | k + 35 => exact rfl
theorem eqLine_o {a : Nat} {w : ZLine} : zc (tx, pg, le, up ln a w, tk, bd, vi, va, vl, vj, la, me) (3, a) = zc (tx, pg, le, (fun _ => w), tk, bd, vi, va, vl, vj, la, me) (3, a) := by
  unfold zc
  dsimp only
  rw [up_same]
theorem neLine_steps {a : Nat} {w : ZLine} (h_stepCount : w.2 = (ln a).2) : ∀ g', adr g' ≠ adr (14, a) → zc (tx, pg, le, up ln a w, tk, bd, vi, va, vl, vj, la, me) g' = zc (tx, pg, le, ln, tk, bd, vi, va, vl, vj, la, me) g' := by
  intro g' hg
  obtain ⟨k, b⟩ := g'
  match k with
  | 0 => exact rfl
  | 1 => exact rfl
  | 2 => exact rfl
  | 3 => 
    unfold zc
    dsimp only
    by_cases hb : b = a
    · rw [hb, up_same]
      simp only [h_stepCount]
    · rw [up_ne hb]
  | 4 => exact rfl
  | 5 => exact rfl
  | 6 => exact rfl
  | 7 => exact rfl
  | 8 => exact rfl
  | 9 => exact rfl
  | 10 => exact rfl
  | 11 => exact rfl
  | 12 => exact rfl
  | 13 => exact rfl
  | 14 => 
    have hb : b ≠ a := fun q => hg (by rw [q])
    unfold zc
    dsimp only
    rw [up_ne hb]
  | 15 => exact rfl
  | 16 => exact rfl
  | 17 => exact rfl
  | 18 => exact rfl
  | 19 => exact rfl
  | 20 => exact rfl
  | 21 => exact rfl
  | 22 => exact rfl
  | 23 => exact rfl
  | 24 => exact rfl
  | 25 => exact rfl
  | 26 => exact rfl
  | 27 => exact rfl
  | 28 => exact rfl
  | 29 => exact rfl
  | 30 => exact rfl
  | 31 => exact rfl
  | 32 => exact rfl
  | 33 => exact rfl
  | 34 => exact rfl
  | k + 35 => exact rfl
theorem eqLine_steps {a : Nat} {w : ZLine} : zc (tx, pg, le, up ln a w, tk, bd, vi, va, vl, vj, la, me) (14, a) = zc (tx, pg, le, (fun _ => w), tk, bd, vi, va, vl, vj, la, me) (14, a) := by
  unfold zc
  dsimp only
  rw [up_same]
theorem neTask_o {a : Nat} {w : ZTask} (h_lineOf : w.1 = (tk a).1) (h_pins : w.2.2.2.1 = (tk a).2.2.2.1) : ∀ g', adr g' ≠ adr (4, a) → zc (tx, pg, le, ln, up tk a w, bd, vi, va, vl, vj, la, me) g' = zc (tx, pg, le, ln, tk, bd, vi, va, vl, vj, la, me) g' := by
  intro g' hg
  obtain ⟨k, b⟩ := g'
  match k with
  | 0 => exact rfl
  | 1 => exact rfl
  | 2 => exact rfl
  | 3 => exact rfl
  | 4 => 
    have hb : b ≠ a := fun q => hg (by rw [q])
    unfold zc
    dsimp only
    rw [up_ne hb]
  | 5 => exact rfl
  | 6 => exact rfl
  | 7 => exact rfl
  | 8 => exact rfl
  | 9 => exact rfl
  | 10 => exact rfl
  | 11 => exact rfl
  | 12 => exact rfl
  | 13 => exact rfl
  | 14 => exact rfl
  | 15 => exact rfl
  | 16 => exact rfl
  | 17 => 
    unfold zc
    dsimp only
    by_cases hb : b = a
    · rw [hb, up_same]
      simp only [h_lineOf]
    · rw [up_ne hb]
  | 18 => exact rfl
  | 19 => exact rfl
  | 20 => 
    unfold zc
    dsimp only
    by_cases hb : b = a
    · rw [hb, up_same]
      simp only [h_pins]
    · rw [up_ne hb]
  | 21 => exact rfl
  | 22 => exact rfl
  | 23 => exact rfl
  | 24 => exact rfl
  | 25 => exact rfl
  | 26 => exact rfl
  | 27 => exact rfl
  | 28 => exact rfl
  | 29 => exact rfl
  | 30 => exact rfl
  | 31 => exact rfl
  | 32 => exact rfl
  | 33 => exact rfl
  | 34 => exact rfl
  | k + 35 => exact rfl
theorem eqTask_o {a : Nat} {w : ZTask} : zc (tx, pg, le, ln, up tk a w, bd, vi, va, vl, vj, la, me) (4, a) = zc (tx, pg, le, ln, (fun _ => w), bd, vi, va, vl, vj, la, me) (4, a) := by
  unfold zc
  dsimp only
  rw [up_same]
theorem neTask_lineOf {a : Nat} {w : ZTask} (h_examples : w.2.1 = (tk a).2.1) (h_refusals : w.2.2.1 = (tk a).2.2.1) (h_standing : w.2.2.2.2.1 = (tk a).2.2.2.2.1) (h_bestCount : w.2.2.2.2.2.1 = (tk a).2.2.2.2.2.1) (h_isBestKnown : w.2.2.2.2.2.2 = (tk a).2.2.2.2.2.2) (h_pins : w.2.2.2.1 = (tk a).2.2.2.1) : ∀ g', adr g' ≠ adr (17, a) → zc (tx, pg, le, ln, up tk a w, bd, vi, va, vl, vj, la, me) g' = zc (tx, pg, le, ln, tk, bd, vi, va, vl, vj, la, me) g' := by
  intro g' hg
  obtain ⟨k, b⟩ := g'
  match k with
  | 0 => exact rfl
  | 1 => exact rfl
  | 2 => exact rfl
  | 3 => exact rfl
  | 4 => 
    unfold zc
    dsimp only
    by_cases hb : b = a
    · rw [hb, up_same]
      simp only [h_examples, h_refusals, h_standing, h_bestCount, h_isBestKnown]
    · rw [up_ne hb]
  | 5 => exact rfl
  | 6 => exact rfl
  | 7 => exact rfl
  | 8 => exact rfl
  | 9 => exact rfl
  | 10 => exact rfl
  | 11 => exact rfl
  | 12 => exact rfl
  | 13 => exact rfl
  | 14 => exact rfl
  | 15 => exact rfl
  | 16 => exact rfl
  | 17 => 
    have hb : b ≠ a := fun q => hg (by rw [q])
    unfold zc
    dsimp only
    rw [up_ne hb]
  | 18 => exact rfl
  | 19 => exact rfl
  | 20 => 
    unfold zc
    dsimp only
    by_cases hb : b = a
    · rw [hb, up_same]
      simp only [h_pins]
    · rw [up_ne hb]
  | 21 => exact rfl
  | 22 => exact rfl
  | 23 => exact rfl
  | 24 => exact rfl
  | 25 => exact rfl
  | 26 => exact rfl
  | 27 => exact rfl
  | 28 => exact rfl
  | 29 => exact rfl
  | 30 => exact rfl
  | 31 => exact rfl
  | 32 => exact rfl
  | 33 => exact rfl
  | 34 => exact rfl
  | k + 35 => exact rfl
theorem eqTask_lineOf {a : Nat} {w : ZTask} : zc (tx, pg, le, ln, up tk a w, bd, vi, va, vl, vj, la, me) (17, a) = zc (tx, pg, le, ln, (fun _ => w), bd, vi, va, vl, vj, la, me) (17, a) := by
  unfold zc
  dsimp only
  rw [up_same]
theorem neTask_pins {a : Nat} {w : ZTask} (h_examples : w.2.1 = (tk a).2.1) (h_refusals : w.2.2.1 = (tk a).2.2.1) (h_standing : w.2.2.2.2.1 = (tk a).2.2.2.2.1) (h_bestCount : w.2.2.2.2.2.1 = (tk a).2.2.2.2.2.1) (h_isBestKnown : w.2.2.2.2.2.2 = (tk a).2.2.2.2.2.2) (h_lineOf : w.1 = (tk a).1) : ∀ g', adr g' ≠ adr (20, a) → zc (tx, pg, le, ln, up tk a w, bd, vi, va, vl, vj, la, me) g' = zc (tx, pg, le, ln, tk, bd, vi, va, vl, vj, la, me) g' := by
  intro g' hg
  obtain ⟨k, b⟩ := g'
  match k with
  | 0 => exact rfl
  | 1 => exact rfl
  | 2 => exact rfl
  | 3 => exact rfl
  | 4 => 
    unfold zc
    dsimp only
    by_cases hb : b = a
    · rw [hb, up_same]
      simp only [h_examples, h_refusals, h_standing, h_bestCount, h_isBestKnown]
    · rw [up_ne hb]
  | 5 => exact rfl
  | 6 => exact rfl
  | 7 => exact rfl
  | 8 => exact rfl
  | 9 => exact rfl
  | 10 => exact rfl
  | 11 => exact rfl
  | 12 => exact rfl
  | 13 => exact rfl
  | 14 => exact rfl
  | 15 => exact rfl
  | 16 => exact rfl
  | 17 => 
    unfold zc
    dsimp only
    by_cases hb : b = a
    · rw [hb, up_same]
      simp only [h_lineOf]
    · rw [up_ne hb]
  | 18 => exact rfl
  | 19 => exact rfl
  | 20 => 
    have hb : b ≠ a := fun q => hg (by rw [q])
    unfold zc
    dsimp only
    rw [up_ne hb]
  | 21 => exact rfl
  | 22 => exact rfl
  | 23 => exact rfl
  | 24 => exact rfl
  | 25 => exact rfl
  | 26 => exact rfl
  | 27 => exact rfl
  | 28 => exact rfl
  | 29 => exact rfl
  | 30 => exact rfl
  | 31 => exact rfl
  | 32 => exact rfl
  | 33 => exact rfl
  | 34 => exact rfl
  | k + 35 => exact rfl
theorem eqTask_pins {a : Nat} {w : ZTask} : zc (tx, pg, le, ln, up tk a w, bd, vi, va, vl, vj, la, me) (20, a) = zc (tx, pg, le, ln, (fun _ => w), bd, vi, va, vl, vj, la, me) (20, a) := by
  unfold zc
  dsimp only
  rw [up_same]
theorem neBoard_o {a : Nat} {w : ZBoard} (h_spots : w.1 = (bd a).1) (h_placesOfSign : w.2.1 = (bd a).2.1) (h_cutPlaces : w.2.2.1 = (bd a).2.2.1) (h_eachPlaces : w.2.2.2.1 = (bd a).2.2.2.1) (h_eachSizes : w.2.2.2.2 = (bd a).2.2.2.2) : ∀ g', adr g' ≠ adr (5, a) → zc (tx, pg, le, ln, tk, up bd a w, vi, va, vl, vj, la, me) g' = zc (tx, pg, le, ln, tk, bd, vi, va, vl, vj, la, me) g' := by
  intro g' hg
  obtain ⟨k, b⟩ := g'
  match k with
  | 0 => exact rfl
  | 1 => exact rfl
  | 2 => exact rfl
  | 3 => exact rfl
  | 4 => exact rfl
  | 5 => 
    have hb : b ≠ a := fun q => hg (by rw [q])
    unfold zc
    dsimp only
    rw [up_ne hb]
  | 6 => exact rfl
  | 7 => exact rfl
  | 8 => exact rfl
  | 9 => exact rfl
  | 10 => exact rfl
  | 11 => exact rfl
  | 12 => exact rfl
  | 13 => exact rfl
  | 14 => exact rfl
  | 15 => exact rfl
  | 16 => exact rfl
  | 17 => exact rfl
  | 18 => exact rfl
  | 19 => exact rfl
  | 20 => exact rfl
  | 21 => exact rfl
  | 22 => 
    unfold zc
    dsimp only
    by_cases hb : b = a
    · rw [hb, up_same]
      simp only [h_spots]
    · rw [up_ne hb]
  | 23 => 
    unfold zc
    dsimp only
    by_cases hb : b = a
    · rw [hb, up_same]
      simp only [h_placesOfSign]
    · rw [up_ne hb]
  | 24 => 
    unfold zc
    dsimp only
    by_cases hb : b = a
    · rw [hb, up_same]
      simp only [h_cutPlaces]
    · rw [up_ne hb]
  | 25 => 
    unfold zc
    dsimp only
    by_cases hb : b = a
    · rw [hb, up_same]
      simp only [h_eachPlaces]
    · rw [up_ne hb]
  | 26 => 
    unfold zc
    dsimp only
    by_cases hb : b = a
    · rw [hb, up_same]
      simp only [h_eachSizes]
    · rw [up_ne hb]
  | 27 => exact rfl
  | 28 => exact rfl
  | 29 => exact rfl
  | 30 => exact rfl
  | 31 => exact rfl
  | 32 => exact rfl
  | 33 => exact rfl
  | 34 => exact rfl
  | k + 35 => exact rfl
theorem eqBoard_o {a : Nat} {w : ZBoard} : zc (tx, pg, le, ln, tk, up bd a w, vi, va, vl, vj, la, me) (5, a) = zc (tx, pg, le, ln, tk, (fun _ => w), vi, va, vl, vj, la, me) (5, a) := by
  unfold zc
  dsimp only
  rw [up_same]
theorem neBoard_spots {a : Nat} {w : ZBoard} (h_placesOfSign : w.2.1 = (bd a).2.1) (h_cutPlaces : w.2.2.1 = (bd a).2.2.1) (h_eachPlaces : w.2.2.2.1 = (bd a).2.2.2.1) (h_eachSizes : w.2.2.2.2 = (bd a).2.2.2.2) : ∀ g', adr g' ≠ adr (22, a) → zc (tx, pg, le, ln, tk, up bd a w, vi, va, vl, vj, la, me) g' = zc (tx, pg, le, ln, tk, bd, vi, va, vl, vj, la, me) g' := by
  intro g' hg
  obtain ⟨k, b⟩ := g'
  match k with
  | 0 => exact rfl
  | 1 => exact rfl
  | 2 => exact rfl
  | 3 => exact rfl
  | 4 => exact rfl
  | 5 => 
    unfold zc
    dsimp only
    by_cases hb : b = a
    · rw [hb, up_same]
      simp only []
    · rw [up_ne hb]
  | 6 => exact rfl
  | 7 => exact rfl
  | 8 => exact rfl
  | 9 => exact rfl
  | 10 => exact rfl
  | 11 => exact rfl
  | 12 => exact rfl
  | 13 => exact rfl
  | 14 => exact rfl
  | 15 => exact rfl
  | 16 => exact rfl
  | 17 => exact rfl
  | 18 => exact rfl
  | 19 => exact rfl
  | 20 => exact rfl
  | 21 => exact rfl
  | 22 => 
    have hb : b ≠ a := fun q => hg (by rw [q])
    unfold zc
    dsimp only
    rw [up_ne hb]
  | 23 => 
    unfold zc
    dsimp only
    by_cases hb : b = a
    · rw [hb, up_same]
      simp only [h_placesOfSign]
    · rw [up_ne hb]
  | 24 => 
    unfold zc
    dsimp only
    by_cases hb : b = a
    · rw [hb, up_same]
      simp only [h_cutPlaces]
    · rw [up_ne hb]
  | 25 => 
    unfold zc
    dsimp only
    by_cases hb : b = a
    · rw [hb, up_same]
      simp only [h_eachPlaces]
    · rw [up_ne hb]
  | 26 => 
    unfold zc
    dsimp only
    by_cases hb : b = a
    · rw [hb, up_same]
      simp only [h_eachSizes]
    · rw [up_ne hb]
  | 27 => exact rfl
  | 28 => exact rfl
  | 29 => exact rfl
  | 30 => exact rfl
  | 31 => exact rfl
  | 32 => exact rfl
  | 33 => exact rfl
  | 34 => exact rfl
  | k + 35 => exact rfl
theorem eqBoard_spots {a : Nat} {w : ZBoard} : zc (tx, pg, le, ln, tk, up bd a w, vi, va, vl, vj, la, me) (22, a) = zc (tx, pg, le, ln, tk, (fun _ => w), vi, va, vl, vj, la, me) (22, a) := by
  unfold zc
  dsimp only
  rw [up_same]
theorem neBoard_placesOfSign {a : Nat} {w : ZBoard} (h_spots : w.1 = (bd a).1) (h_cutPlaces : w.2.2.1 = (bd a).2.2.1) (h_eachPlaces : w.2.2.2.1 = (bd a).2.2.2.1) (h_eachSizes : w.2.2.2.2 = (bd a).2.2.2.2) : ∀ g', adr g' ≠ adr (23, a) → zc (tx, pg, le, ln, tk, up bd a w, vi, va, vl, vj, la, me) g' = zc (tx, pg, le, ln, tk, bd, vi, va, vl, vj, la, me) g' := by
  intro g' hg
  obtain ⟨k, b⟩ := g'
  match k with
  | 0 => exact rfl
  | 1 => exact rfl
  | 2 => exact rfl
  | 3 => exact rfl
  | 4 => exact rfl
  | 5 => 
    unfold zc
    dsimp only
    by_cases hb : b = a
    · rw [hb, up_same]
      simp only []
    · rw [up_ne hb]
  | 6 => exact rfl
  | 7 => exact rfl
  | 8 => exact rfl
  | 9 => exact rfl
  | 10 => exact rfl
  | 11 => exact rfl
  | 12 => exact rfl
  | 13 => exact rfl
  | 14 => exact rfl
  | 15 => exact rfl
  | 16 => exact rfl
  | 17 => exact rfl
  | 18 => exact rfl
  | 19 => exact rfl
  | 20 => exact rfl
  | 21 => exact rfl
  | 22 => 
    unfold zc
    dsimp only
    by_cases hb : b = a
    · rw [hb, up_same]
      simp only [h_spots]
    · rw [up_ne hb]
  | 23 => 
    have hb : b ≠ a := fun q => hg (by rw [q])
    unfold zc
    dsimp only
    rw [up_ne hb]
  | 24 => 
    unfold zc
    dsimp only
    by_cases hb : b = a
    · rw [hb, up_same]
      simp only [h_cutPlaces]
    · rw [up_ne hb]
  | 25 => 
    unfold zc
    dsimp only
    by_cases hb : b = a
    · rw [hb, up_same]
      simp only [h_eachPlaces]
    · rw [up_ne hb]
  | 26 => 
    unfold zc
    dsimp only
    by_cases hb : b = a
    · rw [hb, up_same]
      simp only [h_eachSizes]
    · rw [up_ne hb]
  | 27 => exact rfl
  | 28 => exact rfl
  | 29 => exact rfl
  | 30 => exact rfl
  | 31 => exact rfl
  | 32 => exact rfl
  | 33 => exact rfl
  | 34 => exact rfl
  | k + 35 => exact rfl
theorem eqBoard_placesOfSign {a : Nat} {w : ZBoard} : zc (tx, pg, le, ln, tk, up bd a w, vi, va, vl, vj, la, me) (23, a) = zc (tx, pg, le, ln, tk, (fun _ => w), vi, va, vl, vj, la, me) (23, a) := by
  unfold zc
  dsimp only
  rw [up_same]
theorem neBoard_cutPlaces {a : Nat} {w : ZBoard} (h_spots : w.1 = (bd a).1) (h_placesOfSign : w.2.1 = (bd a).2.1) (h_eachPlaces : w.2.2.2.1 = (bd a).2.2.2.1) (h_eachSizes : w.2.2.2.2 = (bd a).2.2.2.2) : ∀ g', adr g' ≠ adr (24, a) → zc (tx, pg, le, ln, tk, up bd a w, vi, va, vl, vj, la, me) g' = zc (tx, pg, le, ln, tk, bd, vi, va, vl, vj, la, me) g' := by
  intro g' hg
  obtain ⟨k, b⟩ := g'
  match k with
  | 0 => exact rfl
  | 1 => exact rfl
  | 2 => exact rfl
  | 3 => exact rfl
  | 4 => exact rfl
  | 5 => 
    unfold zc
    dsimp only
    by_cases hb : b = a
    · rw [hb, up_same]
      simp only []
    · rw [up_ne hb]
  | 6 => exact rfl
  | 7 => exact rfl
  | 8 => exact rfl
  | 9 => exact rfl
  | 10 => exact rfl
  | 11 => exact rfl
  | 12 => exact rfl
  | 13 => exact rfl
  | 14 => exact rfl
  | 15 => exact rfl
  | 16 => exact rfl
  | 17 => exact rfl
  | 18 => exact rfl
  | 19 => exact rfl
  | 20 => exact rfl
  | 21 => exact rfl
  | 22 => 
    unfold zc
    dsimp only
    by_cases hb : b = a
    · rw [hb, up_same]
      simp only [h_spots]
    · rw [up_ne hb]
  | 23 => 
    unfold zc
    dsimp only
    by_cases hb : b = a
    · rw [hb, up_same]
      simp only [h_placesOfSign]
    · rw [up_ne hb]
  | 24 => 
    have hb : b ≠ a := fun q => hg (by rw [q])
    unfold zc
    dsimp only
    rw [up_ne hb]
  | 25 => 
    unfold zc
    dsimp only
    by_cases hb : b = a
    · rw [hb, up_same]
      simp only [h_eachPlaces]
    · rw [up_ne hb]
  | 26 => 
    unfold zc
    dsimp only
    by_cases hb : b = a
    · rw [hb, up_same]
      simp only [h_eachSizes]
    · rw [up_ne hb]
  | 27 => exact rfl
  | 28 => exact rfl
  | 29 => exact rfl
  | 30 => exact rfl
  | 31 => exact rfl
  | 32 => exact rfl
  | 33 => exact rfl
  | 34 => exact rfl
  | k + 35 => exact rfl
theorem eqBoard_cutPlaces {a : Nat} {w : ZBoard} : zc (tx, pg, le, ln, tk, up bd a w, vi, va, vl, vj, la, me) (24, a) = zc (tx, pg, le, ln, tk, (fun _ => w), vi, va, vl, vj, la, me) (24, a) := by
  unfold zc
  dsimp only
  rw [up_same]
theorem neBoard_eachPlaces {a : Nat} {w : ZBoard} (h_spots : w.1 = (bd a).1) (h_placesOfSign : w.2.1 = (bd a).2.1) (h_cutPlaces : w.2.2.1 = (bd a).2.2.1) (h_eachSizes : w.2.2.2.2 = (bd a).2.2.2.2) : ∀ g', adr g' ≠ adr (25, a) → zc (tx, pg, le, ln, tk, up bd a w, vi, va, vl, vj, la, me) g' = zc (tx, pg, le, ln, tk, bd, vi, va, vl, vj, la, me) g' := by
  intro g' hg
  obtain ⟨k, b⟩ := g'
  match k with
  | 0 => exact rfl
  | 1 => exact rfl
  | 2 => exact rfl
  | 3 => exact rfl
  | 4 => exact rfl
  | 5 => 
    unfold zc
    dsimp only
    by_cases hb : b = a
    · rw [hb, up_same]
      simp only []
    · rw [up_ne hb]
  | 6 => exact rfl
  | 7 => exact rfl
  | 8 => exact rfl
  | 9 => exact rfl
  | 10 => exact rfl
  | 11 => exact rfl
  | 12 => exact rfl
  | 13 => exact rfl
  | 14 => exact rfl
  | 15 => exact rfl
  | 16 => exact rfl
  | 17 => exact rfl
  | 18 => exact rfl
  | 19 => exact rfl
  | 20 => exact rfl
  | 21 => exact rfl
  | 22 => 
    unfold zc
    dsimp only
    by_cases hb : b = a
    · rw [hb, up_same]
      simp only [h_spots]
    · rw [up_ne hb]
  | 23 => 
    unfold zc
    dsimp only
    by_cases hb : b = a
    · rw [hb, up_same]
      simp only [h_placesOfSign]
    · rw [up_ne hb]
  | 24 => 
    unfold zc
    dsimp only
    by_cases hb : b = a
    · rw [hb, up_same]
      simp only [h_cutPlaces]
    · rw [up_ne hb]
  | 25 => 
    have hb : b ≠ a := fun q => hg (by rw [q])
    unfold zc
    dsimp only
    rw [up_ne hb]
  | 26 => 
    unfold zc
    dsimp only
    by_cases hb : b = a
    · rw [hb, up_same]
      simp only [h_eachSizes]
    · rw [up_ne hb]
  | 27 => exact rfl
  | 28 => exact rfl
  | 29 => exact rfl
  | 30 => exact rfl
  | 31 => exact rfl
  | 32 => exact rfl
  | 33 => exact rfl
  | 34 => exact rfl
  | k + 35 => exact rfl
theorem eqBoard_eachPlaces {a : Nat} {w : ZBoard} : zc (tx, pg, le, ln, tk, up bd a w, vi, va, vl, vj, la, me) (25, a) = zc (tx, pg, le, ln, tk, (fun _ => w), vi, va, vl, vj, la, me) (25, a) := by
  unfold zc
  dsimp only
  rw [up_same]
theorem neBoard_eachSizes {a : Nat} {w : ZBoard} (h_spots : w.1 = (bd a).1) (h_placesOfSign : w.2.1 = (bd a).2.1) (h_cutPlaces : w.2.2.1 = (bd a).2.2.1) (h_eachPlaces : w.2.2.2.1 = (bd a).2.2.2.1) : ∀ g', adr g' ≠ adr (26, a) → zc (tx, pg, le, ln, tk, up bd a w, vi, va, vl, vj, la, me) g' = zc (tx, pg, le, ln, tk, bd, vi, va, vl, vj, la, me) g' := by
  intro g' hg
  obtain ⟨k, b⟩ := g'
  match k with
  | 0 => exact rfl
  | 1 => exact rfl
  | 2 => exact rfl
  | 3 => exact rfl
  | 4 => exact rfl
  | 5 => 
    unfold zc
    dsimp only
    by_cases hb : b = a
    · rw [hb, up_same]
      simp only []
    · rw [up_ne hb]
  | 6 => exact rfl
  | 7 => exact rfl
  | 8 => exact rfl
  | 9 => exact rfl
  | 10 => exact rfl
  | 11 => exact rfl
  | 12 => exact rfl
  | 13 => exact rfl
  | 14 => exact rfl
  | 15 => exact rfl
  | 16 => exact rfl
  | 17 => exact rfl
  | 18 => exact rfl
  | 19 => exact rfl
  | 20 => exact rfl
  | 21 => exact rfl
  | 22 => 
    unfold zc
    dsimp only
    by_cases hb : b = a
    · rw [hb, up_same]
      simp only [h_spots]
    · rw [up_ne hb]
  | 23 => 
    unfold zc
    dsimp only
    by_cases hb : b = a
    · rw [hb, up_same]
      simp only [h_placesOfSign]
    · rw [up_ne hb]
  | 24 => 
    unfold zc
    dsimp only
    by_cases hb : b = a
    · rw [hb, up_same]
      simp only [h_cutPlaces]
    · rw [up_ne hb]
  | 25 => 
    unfold zc
    dsimp only
    by_cases hb : b = a
    · rw [hb, up_same]
      simp only [h_eachPlaces]
    · rw [up_ne hb]
  | 26 => 
    have hb : b ≠ a := fun q => hg (by rw [q])
    unfold zc
    dsimp only
    rw [up_ne hb]
  | 27 => exact rfl
  | 28 => exact rfl
  | 29 => exact rfl
  | 30 => exact rfl
  | 31 => exact rfl
  | 32 => exact rfl
  | 33 => exact rfl
  | 34 => exact rfl
  | k + 35 => exact rfl
theorem eqBoard_eachSizes {a : Nat} {w : ZBoard} : zc (tx, pg, le, ln, tk, up bd a w, vi, va, vl, vj, la, me) (26, a) = zc (tx, pg, le, ln, tk, (fun _ => w), vi, va, vl, vj, la, me) (26, a) := by
  unfold zc
  dsimp only
  rw [up_same]
theorem ne_va {kk : Nat} {w : Nat → Int32} : ∀ g', adr g' ≠ adr (34, kk) → zc (tx, pg, le, ln, tk, bd, vi, up va kk w, vl, vj, la, me) g' = zc (tx, pg, le, ln, tk, bd, vi, va, vl, vj, la, me) g' := by
  intro g' hg
  obtain ⟨k, b⟩ := g'
  match k with
  | 0 => exact rfl
  | 1 => exact rfl
  | 2 => exact rfl
  | 3 => exact rfl
  | 4 => exact rfl
  | 5 => exact rfl
  | 6 => exact rfl
  | 7 => exact rfl
  | 8 => exact rfl
  | 9 => exact rfl
  | 10 => exact rfl
  | 11 => exact rfl
  | 12 => exact rfl
  | 13 => exact rfl
  | 14 => exact rfl
  | 15 => exact rfl
  | 16 => exact rfl
  | 17 => exact rfl
  | 18 => exact rfl
  | 19 => exact rfl
  | 20 => exact rfl
  | 21 => exact rfl
  | 22 => exact rfl
  | 23 => exact rfl
  | 24 => exact rfl
  | 25 => exact rfl
  | 26 => exact rfl
  | 27 => exact rfl
  | 28 => exact rfl
  | 29 => exact rfl
  | 30 => exact rfl
  | 31 => exact rfl
  | 32 => exact rfl
  | 33 => exact rfl
  | 34 => 
    have hb : b ≠ kk := fun q => hg (by rw [q])
    unfold zc
    dsimp only
    rw [up_ne hb]
  | k + 35 => exact rfl
theorem eq_va {k : Nat} {w : Nat → Int32} : zc (tx, pg, le, ln, tk, bd, vi, up va k w, vl, vj, la, me) (34, k) = .inl (sT k, sN k, .inl w) := by
  unfold zc
  dsimp only
  rw [up_same]
  rfl
theorem ne_vl {kk : Nat} {w : Nat → Int64} : ∀ g', adr g' ≠ adr (35, kk) → zc (tx, pg, le, ln, tk, bd, vi, va, up vl kk w, vj, la, me) g' = zc (tx, pg, le, ln, tk, bd, vi, va, vl, vj, la, me) g' := by
  intro g' hg
  obtain ⟨k, b⟩ := g'
  match k with
  | 0 => exact rfl
  | 1 => exact rfl
  | 2 => exact rfl
  | 3 => exact rfl
  | 4 => exact rfl
  | 5 => exact rfl
  | 6 => exact rfl
  | 7 => exact rfl
  | 8 => exact rfl
  | 9 => exact rfl
  | 10 => exact rfl
  | 11 => exact rfl
  | 12 => exact rfl
  | 13 => exact rfl
  | 14 => exact rfl
  | 15 => exact rfl
  | 16 => exact rfl
  | 17 => exact rfl
  | 18 => exact rfl
  | 19 => exact rfl
  | 20 => exact rfl
  | 21 => exact rfl
  | 22 => exact rfl
  | 23 => exact rfl
  | 24 => exact rfl
  | 25 => exact rfl
  | 26 => exact rfl
  | 27 => exact rfl
  | 28 => exact rfl
  | 29 => exact rfl
  | 30 => exact rfl
  | 31 => exact rfl
  | 32 => exact rfl
  | 33 => exact rfl
  | 34 => exact rfl
  | k + 35 => 
    have hb : b ≠ kk := fun q => hg (by
      rw [q]
      rfl)
    unfold zc
    dsimp only
    rw [up_ne hb]
theorem eq_vl {k : Nat} {w : Nat → Int64} : zc (tx, pg, le, ln, tk, bd, vi, va, up vl k w, vj, la, me) (35, k) = .inl (1, sM k, .inr (.inl w)) := by
  unfold zc
  dsimp only
  rw [up_same]
  rfl
theorem ne_viFinder {w : Nat → Int32} (hv : ∀ i, i / 100 ≠ 1 → w i = vi i) : ∀ g', adr g' ≠ adr (6, 0) → zc (tx, pg, le, ln, tk, bd, w, va, vl, vj, la, me) g' = zc (tx, pg, le, ln, tk, bd, vi, va, vl, vj, la, me) g' := by
  intro g' hg
  obtain ⟨k, b⟩ := g'
  match k with
  | 0 => exact rfl
  | 1 => exact rfl
  | 2 => exact rfl
  | 3 => exact rfl
  | 4 => exact rfl
  | 5 => exact rfl
  | 6 => exact absurd rfl hg
  | 7 => 
    unfold zc
    dsimp only
    simp only [hv 602 (by decide), hv 607 (by decide), hv 611 (by decide)]
  | 8 => exact rfl
  | 9 => 
    unfold zc
    dsimp only
    simp only [hv 907 (by decide), hv 908 (by decide), hv 909 (by decide)]
  | 10 => 
    unfold zc
    dsimp only
    simp only [hv 1000 (by decide), hv 1001 (by decide), hv 1003 (by decide), hv 1027 (by decide), hv 1030 (by decide), hv 1038 (by decide), hv 1040 (by decide), hv 1045 (by decide), hv 1047 (by decide), hv 1050 (by decide), hv 1054 (by decide), hv 1056 (by decide), hv 1057 (by decide), hv 1061 (by decide), hv 1065 (by decide)]
  | 11 => exact rfl
  | 12 => exact rfl
  | 13 => exact rfl
  | 14 => exact rfl
  | 15 => exact rfl
  | 16 => exact rfl
  | 17 => exact rfl
  | 18 => exact rfl
  | 19 => exact rfl
  | 20 => exact rfl
  | 21 => exact rfl
  | 22 => exact rfl
  | 23 => exact rfl
  | 24 => exact rfl
  | 25 => exact rfl
  | 26 => exact rfl
  | 27 => exact rfl
  | 28 => exact rfl
  | 29 => exact rfl
  | 30 => exact rfl
  | 31 => exact rfl
  | 32 => exact rfl
  | 33 => exact rfl
  | 34 => exact rfl
  | k + 35 => exact rfl
theorem ne_viStock {w : Nat → Int32} (hv : ∀ i, i / 100 ≠ 6 → w i = vi i) : ∀ g', adr g' ≠ adr (7, 0) → zc (tx, pg, le, ln, tk, bd, w, va, vl, vj, la, me) g' = zc (tx, pg, le, ln, tk, bd, vi, va, vl, vj, la, me) g' := by
  intro g' hg
  obtain ⟨k, b⟩ := g'
  match k with
  | 0 => exact rfl
  | 1 => exact rfl
  | 2 => exact rfl
  | 3 => exact rfl
  | 4 => exact rfl
  | 5 => exact rfl
  | 6 => 
    unfold zc
    dsimp only
    simp only [hv 101 (by decide), hv 104 (by decide), hv 107 (by decide)]
  | 7 => exact absurd rfl hg
  | 8 => exact rfl
  | 9 => 
    unfold zc
    dsimp only
    simp only [hv 907 (by decide), hv 908 (by decide), hv 909 (by decide)]
  | 10 => 
    unfold zc
    dsimp only
    simp only [hv 1000 (by decide), hv 1001 (by decide), hv 1003 (by decide), hv 1027 (by decide), hv 1030 (by decide), hv 1038 (by decide), hv 1040 (by decide), hv 1045 (by decide), hv 1047 (by decide), hv 1050 (by decide), hv 1054 (by decide), hv 1056 (by decide), hv 1057 (by decide), hv 1061 (by decide), hv 1065 (by decide)]
  | 11 => exact rfl
  | 12 => exact rfl
  | 13 => exact rfl
  | 14 => exact rfl
  | 15 => exact rfl
  | 16 => exact rfl
  | 17 => exact rfl
  | 18 => exact rfl
  | 19 => exact rfl
  | 20 => exact rfl
  | 21 => exact rfl
  | 22 => exact rfl
  | 23 => exact rfl
  | 24 => exact rfl
  | 25 => exact rfl
  | 26 => exact rfl
  | 27 => exact rfl
  | 28 => exact rfl
  | 29 => exact rfl
  | 30 => exact rfl
  | 31 => exact rfl
  | 32 => exact rfl
  | 33 => exact rfl
  | 34 => exact rfl
  | k + 35 => exact rfl
theorem ne_viScript {w : Nat → Int32} (hv : ∀ i, i / 100 ≠ 9 → w i = vi i) : ∀ g', adr g' ≠ adr (9, 0) → zc (tx, pg, le, ln, tk, bd, w, va, vl, vj, la, me) g' = zc (tx, pg, le, ln, tk, bd, vi, va, vl, vj, la, me) g' := by
  intro g' hg
  obtain ⟨k, b⟩ := g'
  match k with
  | 0 => exact rfl
  | 1 => exact rfl
  | 2 => exact rfl
  | 3 => exact rfl
  | 4 => exact rfl
  | 5 => exact rfl
  | 6 => 
    unfold zc
    dsimp only
    simp only [hv 101 (by decide), hv 104 (by decide), hv 107 (by decide)]
  | 7 => 
    unfold zc
    dsimp only
    simp only [hv 602 (by decide), hv 607 (by decide), hv 611 (by decide)]
  | 8 => exact rfl
  | 9 => exact absurd rfl hg
  | 10 => 
    unfold zc
    dsimp only
    simp only [hv 1000 (by decide), hv 1001 (by decide), hv 1003 (by decide), hv 1027 (by decide), hv 1030 (by decide), hv 1038 (by decide), hv 1040 (by decide), hv 1045 (by decide), hv 1047 (by decide), hv 1050 (by decide), hv 1054 (by decide), hv 1056 (by decide), hv 1057 (by decide), hv 1061 (by decide), hv 1065 (by decide)]
  | 11 => exact rfl
  | 12 => exact rfl
  | 13 => exact rfl
  | 14 => exact rfl
  | 15 => exact rfl
  | 16 => exact rfl
  | 17 => exact rfl
  | 18 => exact rfl
  | 19 => exact rfl
  | 20 => exact rfl
  | 21 => exact rfl
  | 22 => exact rfl
  | 23 => exact rfl
  | 24 => exact rfl
  | 25 => exact rfl
  | 26 => exact rfl
  | 27 => exact rfl
  | 28 => exact rfl
  | 29 => exact rfl
  | 30 => exact rfl
  | 31 => exact rfl
  | 32 => exact rfl
  | 33 => exact rfl
  | 34 => exact rfl
  | k + 35 => exact rfl
theorem ne_viModel {w : Nat → Int32} (hv : ∀ i, i < 1000 → w i = vi i) : ∀ g', adr g' ≠ adr (10, 0) → zc (tx, pg, le, ln, tk, bd, w, va, vl, vj, la, me) g' = zc (tx, pg, le, ln, tk, bd, vi, va, vl, vj, la, me) g' := by
  intro g' hg
  obtain ⟨k, b⟩ := g'
  match k with
  | 0 => exact rfl
  | 1 => exact rfl
  | 2 => exact rfl
  | 3 => exact rfl
  | 4 => exact rfl
  | 5 => exact rfl
  | 6 => 
    unfold zc
    dsimp only
    simp only [hv 101 (by decide), hv 104 (by decide), hv 107 (by decide)]
  | 7 => 
    unfold zc
    dsimp only
    simp only [hv 602 (by decide), hv 607 (by decide), hv 611 (by decide)]
  | 8 => exact rfl
  | 9 => 
    unfold zc
    dsimp only
    simp only [hv 907 (by decide), hv 908 (by decide), hv 909 (by decide)]
  | 10 => exact absurd rfl hg
  | 11 => exact rfl
  | 12 => exact rfl
  | 13 => exact rfl
  | 14 => exact rfl
  | 15 => exact rfl
  | 16 => exact rfl
  | 17 => exact rfl
  | 18 => exact rfl
  | 19 => exact rfl
  | 20 => exact rfl
  | 21 => exact rfl
  | 22 => exact rfl
  | 23 => exact rfl
  | 24 => exact rfl
  | 25 => exact rfl
  | 26 => exact rfl
  | 27 => exact rfl
  | 28 => exact rfl
  | 29 => exact rfl
  | 30 => exact rfl
  | 31 => exact rfl
  | 32 => exact rfl
  | 33 => exact rfl
  | 34 => exact rfl
  | k + 35 => exact rfl
theorem ne_vj {w : Int64} : ∀ g', adr g' ≠ adr (6, 0) → zc (tx, pg, le, ln, tk, bd, vi, va, vl, w, la, me) g' = zc (tx, pg, le, ln, tk, bd, vi, va, vl, vj, la, me) g' := by
  intro g' hg
  obtain ⟨k, b⟩ := g'
  match k with
  | 0 => exact rfl
  | 1 => exact rfl
  | 2 => exact rfl
  | 3 => exact rfl
  | 4 => exact rfl
  | 5 => exact rfl
  | 6 => exact absurd rfl hg
  | 7 => exact rfl
  | 8 => exact rfl
  | 9 => exact rfl
  | 10 => exact rfl
  | 11 => exact rfl
  | 12 => exact rfl
  | 13 => exact rfl
  | 14 => exact rfl
  | 15 => exact rfl
  | 16 => exact rfl
  | 17 => exact rfl
  | 18 => exact rfl
  | 19 => exact rfl
  | 20 => exact rfl
  | 21 => exact rfl
  | 22 => exact rfl
  | 23 => exact rfl
  | 24 => exact rfl
  | 25 => exact rfl
  | 26 => exact rfl
  | 27 => exact rfl
  | 28 => exact rfl
  | 29 => exact rfl
  | 30 => exact rfl
  | 31 => exact rfl
  | 32 => exact rfl
  | 33 => exact rfl
  | 34 => exact rfl
  | k + 35 => exact rfl
theorem ne_la {w : Option Nat} : ∀ g', adr g' ≠ adr (6, 0) → zc (tx, pg, le, ln, tk, bd, vi, va, vl, vj, w, me) g' = zc (tx, pg, le, ln, tk, bd, vi, va, vl, vj, la, me) g' := by
  intro g' hg
  obtain ⟨k, b⟩ := g'
  match k with
  | 0 => exact rfl
  | 1 => exact rfl
  | 2 => exact rfl
  | 3 => exact rfl
  | 4 => exact rfl
  | 5 => exact rfl
  | 6 => exact absurd rfl hg
  | 7 => exact rfl
  | 8 => exact rfl
  | 9 => exact rfl
  | 10 => exact rfl
  | 11 => exact rfl
  | 12 => exact rfl
  | 13 => exact rfl
  | 14 => exact rfl
  | 15 => exact rfl
  | 16 => exact rfl
  | 17 => exact rfl
  | 18 => exact rfl
  | 19 => exact rfl
  | 20 => exact rfl
  | 21 => exact rfl
  | 22 => exact rfl
  | 23 => exact rfl
  | 24 => exact rfl
  | 25 => exact rfl
  | 26 => exact rfl
  | 27 => exact rfl
  | 28 => exact rfl
  | 29 => exact rfl
  | 30 => exact rfl
  | 31 => exact rfl
  | 32 => exact rfl
  | 33 => exact rfl
  | 34 => exact rfl
  | k + 35 => exact rfl
theorem ne_me {w : Nat → Option Nat} : ∀ g', adr g' ≠ adr (29, 0) → zc (tx, pg, le, ln, tk, bd, vi, va, vl, vj, la, w) g' = zc (tx, pg, le, ln, tk, bd, vi, va, vl, vj, la, me) g' := by
  intro g' hg
  obtain ⟨k, b⟩ := g'
  match k with
  | 0 => exact rfl
  | 1 => exact rfl
  | 2 => exact rfl
  | 3 => exact rfl
  | 4 => exact rfl
  | 5 => exact rfl
  | 6 => exact rfl
  | 7 => exact rfl
  | 8 => exact rfl
  | 9 => exact rfl
  | 10 => exact rfl
  | 11 => exact rfl
  | 12 => exact rfl
  | 13 => exact rfl
  | 14 => exact rfl
  | 15 => exact rfl
  | 16 => exact rfl
  | 17 => exact rfl
  | 18 => exact rfl
  | 19 => exact rfl
  | 20 => exact rfl
  | 21 => exact rfl
  | 22 => exact rfl
  | 23 => exact rfl
  | 24 => exact rfl
  | 25 => exact rfl
  | 26 => exact rfl
  | 27 => exact rfl
  | 28 => exact rfl
  | 29 => exact absurd rfl hg
  | 30 => exact rfl
  | 31 => exact rfl
  | 32 => exact rfl
  | 33 => exact rfl
  | 34 => exact rfl
  | k + 35 => exact rfl
theorem cText {a : Nat} (h : isText a) : isC (mk (tx, pg, le, ln, tk, bd, vi, va, vl, vj, la, me)) a 8 = true := rd_isC h rfl
theorem gText_signs {a : Nat} (h : isText a) : fR (mk (tx, pg, le, ln, tk, bd, vi, va, vl, vj, la, me)) a 8 0 = some (aText_signs a) := rd_fR h rfl rfl
theorem nText_signs {a : Nat} (h : isText a) : aN (mk (tx, pg, le, ln, tk, bd, vi, va, vl, vj, la, me)) (aText_signs a) = some (I 20) := rd_aN (tgText_signs h) rfl (by decide)
theorem rText_signs {a : Nat} (h : isText a) {i : Int} (h0 : 0 ≤ i) (h1 : i < 20) : aI 2 (mk (tx, pg, le, ln, tk, bd, vi, va, vl, vj, la, me)) (aText_signs a) (I i) = some ((tx a).1 i.toNat) := rd_aI (tgText_signs h) rfl h0 h1 (by decide)
theorem wText_signs {a : Nat} (h : isText a) {i : Int} (h0 : 0 ≤ i) (h1 : i < 20) {v : Int32} : sI 2 (mk (tx, pg, le, ln, tk, bd, vi, va, vl, vj, la, me)) (aText_signs a) (I i) v = some (mk (up tx a (upd (tx a).1 i.toNat (nrT 2 v), (tx a).2.1, (tx a).2.2), pg, le, ln, tk, bd, vi, va, vl, vj, la, me)) := wr_sI (tgText_signs h) rfl h0 h1 (by decide) (neText_signs rfl rfl) eqText_signs
theorem gText_placesOf {a : Nat} (h : isText a) : fR (mk (tx, pg, le, ln, tk, bd, vi, va, vl, vj, la, me)) a 8 1 = some (aText_placesOf a) := rd_fR h rfl rfl
theorem nText_placesOf {a : Nat} (h : isText a) : aN (mk (tx, pg, le, ln, tk, bd, vi, va, vl, vj, la, me)) (aText_placesOf a) = some (I 4) := rd_aN (tgText_placesOf h) rfl (by decide)
theorem rText_placesOf {a : Nat} (h : isText a) {i : Int} (h0 : 0 ≤ i) (h1 : i < 4) : aI 0 (mk (tx, pg, le, ln, tk, bd, vi, va, vl, vj, la, me)) (aText_placesOf a) (I i) = some ((tx a).2.1 i.toNat) := rd_aI (tgText_placesOf h) rfl h0 h1 (by decide)
theorem wText_placesOf {a : Nat} (h : isText a) {i : Int} (h0 : 0 ≤ i) (h1 : i < 4) {v : Int32} : sI 0 (mk (tx, pg, le, ln, tk, bd, vi, va, vl, vj, la, me)) (aText_placesOf a) (I i) v = some (mk (up tx a ((tx a).1, upd (tx a).2.1 i.toNat (v), (tx a).2.2), pg, le, ln, tk, bd, vi, va, vl, vj, la, me)) := wr_sI (tgText_placesOf h) rfl h0 h1 (by decide) (neText_placesOf rfl rfl) eqText_placesOf
theorem gText_size {a : Nat} (h : isText a) : fI (mk (tx, pg, le, ln, tk, bd, vi, va, vl, vj, la, me)) a 8 2 = some (tx a).2.2 := rd_fI h rfl rfl
theorem pText_size {a : Nat} (h : isText a) {v : Int32} : pF (mk (tx, pg, le, ln, tk, bd, vi, va, vl, vj, la, me)) a 8 2 (.int v) = some (mk (up tx a ((tx a).1, (tx a).2.1, v), pg, le, ln, tk, bd, vi, va, vl, vj, la, me)) := wr_F h rfl (Nat.le_of_ble_eq_true rfl) (neText_o rfl rfl) eqText_o
theorem cProg {a : Nat} (h : isProg a) : isC (mk (tx, pg, le, ln, tk, bd, vi, va, vl, vj, la, me)) a 5 = true := rd_isC h rfl
theorem gProg_atoms {a : Nat} (h : isProg a) : fR (mk (tx, pg, le, ln, tk, bd, vi, va, vl, vj, la, me)) a 5 0 = some (aProg_atoms a) := rd_fR h rfl rfl
theorem nProg_atoms {a : Nat} (h : isProg a) : aN (mk (tx, pg, le, ln, tk, bd, vi, va, vl, vj, la, me)) (aProg_atoms a) = some (I 4) := rd_aN (tgProg_atoms h) rfl (by decide)
theorem rProg_atoms {a : Nat} (h : isProg a) {i : Int} (h0 : 0 ≤ i) (h1 : i < 4) : aI 0 (mk (tx, pg, le, ln, tk, bd, vi, va, vl, vj, la, me)) (aProg_atoms a) (I i) = some ((pg a).1 i.toNat) := rd_aI (tgProg_atoms h) rfl h0 h1 (by decide)
theorem wProg_atoms {a : Nat} (h : isProg a) {i : Int} (h0 : 0 ≤ i) (h1 : i < 4) {v : Int32} : sI 0 (mk (tx, pg, le, ln, tk, bd, vi, va, vl, vj, la, me)) (aProg_atoms a) (I i) v = some (mk (tx, up pg a (upd (pg a).1 i.toNat (v), (pg a).2), le, ln, tk, bd, vi, va, vl, vj, la, me)) := wr_sI (tgProg_atoms h) rfl h0 h1 (by decide) (neProg_atoms rfl) eqProg_atoms
theorem gProg_size {a : Nat} (h : isProg a) : fI (mk (tx, pg, le, ln, tk, bd, vi, va, vl, vj, la, me)) a 5 1 = some (pg a).2 := rd_fI h rfl rfl
theorem pProg_size {a : Nat} (h : isProg a) {v : Int32} : pF (mk (tx, pg, le, ln, tk, bd, vi, va, vl, vj, la, me)) a 5 1 (.int v) = some (mk (tx, up pg a ((pg a).1, v), le, ln, tk, bd, vi, va, vl, vj, la, me)) := wr_F h rfl (Nat.le_of_ble_eq_true rfl) (neProg_o rfl) eqProg_o
theorem cLearnt {a : Nat} (h : isLearnt a) : isC (mk (tx, pg, le, ln, tk, bd, vi, va, vl, vj, la, me)) a 3 = true := rd_isC h rfl
theorem gLearnt_first {a : Nat} (h : isLearnt a) : fR (mk (tx, pg, le, ln, tk, bd, vi, va, vl, vj, la, me)) a 3 0 = some (aLearnt_first a) := rd_fR h rfl rfl
theorem gLearnt_second {a : Nat} (h : isLearnt a) : fR (mk (tx, pg, le, ln, tk, bd, vi, va, vl, vj, la, me)) a 3 1 = some (aLearnt_second a) := rd_fR h rfl rfl
theorem gLearnt_any {a : Nat} (h : isLearnt a) : fI (mk (tx, pg, le, ln, tk, bd, vi, va, vl, vj, la, me)) a 3 2 = some (le a).1 := rd_fI h rfl rfl
theorem pLearnt_any {a : Nat} (h : isLearnt a) {v : Int32} : pF (mk (tx, pg, le, ln, tk, bd, vi, va, vl, vj, la, me)) a 3 2 (.int v) = some (mk (tx, pg, up le a (v, (le a).2), ln, tk, bd, vi, va, vl, vj, la, me)) := wr_F h rfl (Nat.le_of_ble_eq_true rfl) (neLearnt_o) eqLearnt_o
theorem gLearnt_parting {a : Nat} (h : isLearnt a) : fI (mk (tx, pg, le, ln, tk, bd, vi, va, vl, vj, la, me)) a 3 3 = some (le a).2 := rd_fI h rfl rfl
theorem pLearnt_parting {a : Nat} (h : isLearnt a) {v : Int32} : pF (mk (tx, pg, le, ln, tk, bd, vi, va, vl, vj, la, me)) a 3 3 (.int v) = some (mk (tx, pg, up le a ((le a).1, v), ln, tk, bd, vi, va, vl, vj, la, me)) := wr_F h rfl (Nat.le_of_ble_eq_true rfl) (neLearnt_o) eqLearnt_o
theorem cLine {a : Nat} (h : isLine a) : isC (mk (tx, pg, le, ln, tk, bd, vi, va, vl, vj, la, me)) a 4 = true := rd_isC h rfl
theorem gLine_came {a : Nat} (h : isLine a) : fR (mk (tx, pg, le, ln, tk, bd, vi, va, vl, vj, la, me)) a 4 0 = some (aLine_came a) := rd_fR h rfl rfl
theorem gLine_now {a : Nat} (h : isLine a) : fR (mk (tx, pg, le, ln, tk, bd, vi, va, vl, vj, la, me)) a 4 1 = some (aLine_now a) := rd_fR h rfl rfl
theorem gLine_steps {a : Nat} (h : isLine a) : fR (mk (tx, pg, le, ln, tk, bd, vi, va, vl, vj, la, me)) a 4 2 = some (aLine_steps a) := rd_fR h rfl rfl
theorem nLine_steps {a : Nat} (h : isLine a) : aN (mk (tx, pg, le, ln, tk, bd, vi, va, vl, vj, la, me)) (aLine_steps a) = some (I 33) := rd_aN (tgLine_steps h) rfl (by decide)
theorem rLine_steps {a : Nat} (h : isLine a) {i : Int} (h0 : 0 ≤ i) (h1 : i < 33) : aI 0 (mk (tx, pg, le, ln, tk, bd, vi, va, vl, vj, la, me)) (aLine_steps a) (I i) = some ((ln a).1 i.toNat) := rd_aI (tgLine_steps h) rfl h0 h1 (by decide)
theorem wLine_steps {a : Nat} (h : isLine a) {i : Int} (h0 : 0 ≤ i) (h1 : i < 33) {v : Int32} : sI 0 (mk (tx, pg, le, ln, tk, bd, vi, va, vl, vj, la, me)) (aLine_steps a) (I i) v = some (mk (tx, pg, le, up ln a (upd (ln a).1 i.toNat (v), (ln a).2), tk, bd, vi, va, vl, vj, la, me)) := wr_sI (tgLine_steps h) rfl h0 h1 (by decide) (neLine_steps rfl) eqLine_steps
theorem gLine_stepCount {a : Nat} (h : isLine a) : fI (mk (tx, pg, le, ln, tk, bd, vi, va, vl, vj, la, me)) a 4 3 = some (ln a).2 := rd_fI h rfl rfl
theorem pLine_stepCount {a : Nat} (h : isLine a) {v : Int32} : pF (mk (tx, pg, le, ln, tk, bd, vi, va, vl, vj, la, me)) a 4 3 (.int v) = some (mk (tx, pg, le, up ln a ((ln a).1, v), tk, bd, vi, va, vl, vj, la, me)) := wr_F h rfl (Nat.le_of_ble_eq_true rfl) (neLine_o rfl) eqLine_o
theorem cTask {a : Nat} (h : isTask a) : isC (mk (tx, pg, le, ln, tk, bd, vi, va, vl, vj, la, me)) a 7 = true := rd_isC h rfl
theorem gTask_was {a : Nat} (h : isTask a) : fR (mk (tx, pg, le, ln, tk, bd, vi, va, vl, vj, la, me)) a 7 0 = some (aTask_was a) := rd_fR h rfl rfl
theorem nTask_was {a : Nat} (h : isTask a) : aN (mk (tx, pg, le, ln, tk, bd, vi, va, vl, vj, la, me)) (aTask_was a) = some (I 4) := rd_aN (tgTask_was h) rfl (by decide)
theorem rTask_was {a : Nat} (h : isTask a) {i : Int} (h0 : 0 ≤ i) (h1 : i < 4) : aR (mk (tx, pg, le, ln, tk, bd, vi, va, vl, vj, la, me)) (aTask_was a) (I i) = some (eTask_was a i.toNat) := (rd_aR (tgTask_was h) rfl (by decide) h0 h1 (by decide)).trans (rch_lt (by omega))
theorem gTask_shown {a : Nat} (h : isTask a) : fR (mk (tx, pg, le, ln, tk, bd, vi, va, vl, vj, la, me)) a 7 1 = some (aTask_shown a) := rd_fR h rfl rfl
theorem nTask_shown {a : Nat} (h : isTask a) : aN (mk (tx, pg, le, ln, tk, bd, vi, va, vl, vj, la, me)) (aTask_shown a) = some (I 4) := rd_aN (tgTask_shown h) rfl (by decide)
theorem rTask_shown {a : Nat} (h : isTask a) {i : Int} (h0 : 0 ≤ i) (h1 : i < 4) : aR (mk (tx, pg, le, ln, tk, bd, vi, va, vl, vj, la, me)) (aTask_shown a) (I i) = some (eTask_shown a i.toNat) := (rd_aR (tgTask_shown h) rfl (by decide) h0 h1 (by decide)).trans (rch_lt (by omega))
theorem gTask_lineOf {a : Nat} (h : isTask a) : fR (mk (tx, pg, le, ln, tk, bd, vi, va, vl, vj, la, me)) a 7 2 = some (aTask_lineOf a) := rd_fR h rfl rfl
theorem nTask_lineOf {a : Nat} (h : isTask a) : aN (mk (tx, pg, le, ln, tk, bd, vi, va, vl, vj, la, me)) (aTask_lineOf a) = some (I 4) := rd_aN (tgTask_lineOf h) rfl (by decide)
theorem rTask_lineOf {a : Nat} (h : isTask a) {i : Int} (h0 : 0 ≤ i) (h1 : i < 4) : aI 0 (mk (tx, pg, le, ln, tk, bd, vi, va, vl, vj, la, me)) (aTask_lineOf a) (I i) = some ((tk a).1 i.toNat) := rd_aI (tgTask_lineOf h) rfl h0 h1 (by decide)
theorem wTask_lineOf {a : Nat} (h : isTask a) {i : Int} (h0 : 0 ≤ i) (h1 : i < 4) {v : Int32} : sI 0 (mk (tx, pg, le, ln, tk, bd, vi, va, vl, vj, la, me)) (aTask_lineOf a) (I i) v = some (mk (tx, pg, le, ln, up tk a (upd (tk a).1 i.toNat (v), (tk a).2.1, (tk a).2.2.1, (tk a).2.2.2.1, (tk a).2.2.2.2.1, (tk a).2.2.2.2.2.1, (tk a).2.2.2.2.2.2), bd, vi, va, vl, vj, la, me)) := wr_sI (tgTask_lineOf h) rfl h0 h1 (by decide) (neTask_lineOf rfl rfl rfl rfl rfl rfl) eqTask_lineOf
theorem gTask_examples {a : Nat} (h : isTask a) : fI (mk (tx, pg, le, ln, tk, bd, vi, va, vl, vj, la, me)) a 7 3 = some (tk a).2.1 := rd_fI h rfl rfl
theorem pTask_examples {a : Nat} (h : isTask a) {v : Int32} : pF (mk (tx, pg, le, ln, tk, bd, vi, va, vl, vj, la, me)) a 7 3 (.int v) = some (mk (tx, pg, le, ln, up tk a ((tk a).1, v, (tk a).2.2.1, (tk a).2.2.2.1, (tk a).2.2.2.2.1, (tk a).2.2.2.2.2.1, (tk a).2.2.2.2.2.2), bd, vi, va, vl, vj, la, me)) := wr_F h rfl (Nat.le_of_ble_eq_true rfl) (neTask_o rfl rfl) eqTask_o
theorem gTask_refusedOf {a : Nat} (h : isTask a) : fR (mk (tx, pg, le, ln, tk, bd, vi, va, vl, vj, la, me)) a 7 4 = some (aTask_refusedOf a) := rd_fR h rfl rfl
theorem nTask_refusedOf {a : Nat} (h : isTask a) : aN (mk (tx, pg, le, ln, tk, bd, vi, va, vl, vj, la, me)) (aTask_refusedOf a) = some (I 4) := rd_aN (tgTask_refusedOf h) rfl (by decide)
theorem rTask_refusedOf {a : Nat} (h : isTask a) {i : Int} (h0 : 0 ≤ i) (h1 : i < 4) : aR (mk (tx, pg, le, ln, tk, bd, vi, va, vl, vj, la, me)) (aTask_refusedOf a) (I i) = some (eTask_refusedOf a i.toNat) := (rd_aR (tgTask_refusedOf h) rfl (by decide) h0 h1 (by decide)).trans (rch_lt (by omega))
theorem gTask_refused {a : Nat} (h : isTask a) : fR (mk (tx, pg, le, ln, tk, bd, vi, va, vl, vj, la, me)) a 7 5 = some (aTask_refused a) := rd_fR h rfl rfl
theorem nTask_refused {a : Nat} (h : isTask a) : aN (mk (tx, pg, le, ln, tk, bd, vi, va, vl, vj, la, me)) (aTask_refused a) = some (I 4) := rd_aN (tgTask_refused h) rfl (by decide)
theorem rTask_refused {a : Nat} (h : isTask a) {i : Int} (h0 : 0 ≤ i) (h1 : i < 4) : aR (mk (tx, pg, le, ln, tk, bd, vi, va, vl, vj, la, me)) (aTask_refused a) (I i) = some (eTask_refused a i.toNat) := (rd_aR (tgTask_refused h) rfl (by decide) h0 h1 (by decide)).trans (rch_lt (by omega))
theorem gTask_refusals {a : Nat} (h : isTask a) : fI (mk (tx, pg, le, ln, tk, bd, vi, va, vl, vj, la, me)) a 7 6 = some (tk a).2.2.1 := rd_fI h rfl rfl
theorem pTask_refusals {a : Nat} (h : isTask a) {v : Int32} : pF (mk (tx, pg, le, ln, tk, bd, vi, va, vl, vj, la, me)) a 7 6 (.int v) = some (mk (tx, pg, le, ln, up tk a ((tk a).1, (tk a).2.1, v, (tk a).2.2.2.1, (tk a).2.2.2.2.1, (tk a).2.2.2.2.2.1, (tk a).2.2.2.2.2.2), bd, vi, va, vl, vj, la, me)) := wr_F h rfl (Nat.le_of_ble_eq_true rfl) (neTask_o rfl rfl) eqTask_o
theorem gTask_pins {a : Nat} (h : isTask a) : fR (mk (tx, pg, le, ln, tk, bd, vi, va, vl, vj, la, me)) a 7 7 = some (aTask_pins a) := rd_fR h rfl rfl
theorem nTask_pins {a : Nat} (h : isTask a) : aN (mk (tx, pg, le, ln, tk, bd, vi, va, vl, vj, la, me)) (aTask_pins a) = some (I 4) := rd_aN (tgTask_pins h) rfl (by decide)
theorem rTask_pins {a : Nat} (h : isTask a) {i : Int} (h0 : 0 ≤ i) (h1 : i < 4) : aI 0 (mk (tx, pg, le, ln, tk, bd, vi, va, vl, vj, la, me)) (aTask_pins a) (I i) = some ((tk a).2.2.2.1 i.toNat) := rd_aI (tgTask_pins h) rfl h0 h1 (by decide)
theorem wTask_pins {a : Nat} (h : isTask a) {i : Int} (h0 : 0 ≤ i) (h1 : i < 4) {v : Int32} : sI 0 (mk (tx, pg, le, ln, tk, bd, vi, va, vl, vj, la, me)) (aTask_pins a) (I i) v = some (mk (tx, pg, le, ln, up tk a ((tk a).1, (tk a).2.1, (tk a).2.2.1, upd (tk a).2.2.2.1 i.toNat (v), (tk a).2.2.2.2.1, (tk a).2.2.2.2.2.1, (tk a).2.2.2.2.2.2), bd, vi, va, vl, vj, la, me)) := wr_sI (tgTask_pins h) rfl h0 h1 (by decide) (neTask_pins rfl rfl rfl rfl rfl rfl) eqTask_pins
theorem gTask_learnt {a : Nat} (h : isTask a) : fR (mk (tx, pg, le, ln, tk, bd, vi, va, vl, vj, la, me)) a 7 8 = some (aTask_learnt a) := rd_fR h rfl rfl
theorem gTask_standing {a : Nat} (h : isTask a) : fI (mk (tx, pg, le, ln, tk, bd, vi, va, vl, vj, la, me)) a 7 9 = some (tk a).2.2.2.2.1 := rd_fI h rfl rfl
theorem pTask_standing {a : Nat} (h : isTask a) {v : Int32} : pF (mk (tx, pg, le, ln, tk, bd, vi, va, vl, vj, la, me)) a 7 9 (.int v) = some (mk (tx, pg, le, ln, up tk a ((tk a).1, (tk a).2.1, (tk a).2.2.1, (tk a).2.2.2.1, v, (tk a).2.2.2.2.2.1, (tk a).2.2.2.2.2.2), bd, vi, va, vl, vj, la, me)) := wr_F h rfl (Nat.le_of_ble_eq_true rfl) (neTask_o rfl rfl) eqTask_o
theorem gTask_best {a : Nat} (h : isTask a) : fR (mk (tx, pg, le, ln, tk, bd, vi, va, vl, vj, la, me)) a 7 10 = some (aTask_best a) := rd_fR h rfl rfl
theorem nTask_best {a : Nat} (h : isTask a) : aN (mk (tx, pg, le, ln, tk, bd, vi, va, vl, vj, la, me)) (aTask_best a) = some (I 5) := rd_aN (tgTask_best h) rfl (by decide)
theorem rTask_best {a : Nat} (h : isTask a) {i : Int} (h0 : 0 ≤ i) (h1 : i < 5) : aR (mk (tx, pg, le, ln, tk, bd, vi, va, vl, vj, la, me)) (aTask_best a) (I i) = some (eTask_best a i.toNat) := (rd_aR (tgTask_best h) rfl (by decide) h0 h1 (by decide)).trans (rch_lt (by omega))
theorem gTask_bestCount {a : Nat} (h : isTask a) : fI (mk (tx, pg, le, ln, tk, bd, vi, va, vl, vj, la, me)) a 7 11 = some (tk a).2.2.2.2.2.1 := rd_fI h rfl rfl
theorem pTask_bestCount {a : Nat} (h : isTask a) {v : Int32} : pF (mk (tx, pg, le, ln, tk, bd, vi, va, vl, vj, la, me)) a 7 11 (.int v) = some (mk (tx, pg, le, ln, up tk a ((tk a).1, (tk a).2.1, (tk a).2.2.1, (tk a).2.2.2.1, (tk a).2.2.2.2.1, v, (tk a).2.2.2.2.2.2), bd, vi, va, vl, vj, la, me)) := wr_F h rfl (Nat.le_of_ble_eq_true rfl) (neTask_o rfl rfl) eqTask_o
theorem gTask_isBestKnown {a : Nat} (h : isTask a) : fI (mk (tx, pg, le, ln, tk, bd, vi, va, vl, vj, la, me)) a 7 12 = some (tk a).2.2.2.2.2.2 := rd_fI h rfl rfl
theorem pTask_isBestKnown {a : Nat} (h : isTask a) {v : Int32} : pF (mk (tx, pg, le, ln, tk, bd, vi, va, vl, vj, la, me)) a 7 12 (.int v) = some (mk (tx, pg, le, ln, up tk a ((tk a).1, (tk a).2.1, (tk a).2.2.1, (tk a).2.2.2.1, (tk a).2.2.2.2.1, (tk a).2.2.2.2.2.1, v), bd, vi, va, vl, vj, la, me)) := wr_F h rfl (Nat.le_of_ble_eq_true rfl) (neTask_o rfl rfl) eqTask_o
theorem cBoard {a : Nat} (h : isBoard a) : isC (mk (tx, pg, le, ln, tk, bd, vi, va, vl, vj, la, me)) a 0 = true := rd_isC h rfl
theorem gBoard_was {a : Nat} (h : isBoard a) : fR (mk (tx, pg, le, ln, tk, bd, vi, va, vl, vj, la, me)) a 0 0 = some (aBoard_was a) := rd_fR h rfl rfl
theorem gBoard_shown {a : Nat} (h : isBoard a) : fR (mk (tx, pg, le, ln, tk, bd, vi, va, vl, vj, la, me)) a 0 1 = some (aBoard_shown a) := rd_fR h rfl rfl
theorem gBoard_spots {a : Nat} (h : isBoard a) : fR (mk (tx, pg, le, ln, tk, bd, vi, va, vl, vj, la, me)) a 0 2 = some (aBoard_spots a) := rd_fR h rfl rfl
theorem nBoard_spots {a : Nat} (h : isBoard a) : aN (mk (tx, pg, le, ln, tk, bd, vi, va, vl, vj, la, me)) (aBoard_spots a) = some (I 30) := rd_aN (tgBoard_spots h) rfl (by decide)
theorem rBoard_spots {a : Nat} (h : isBoard a) {i : Int} (h0 : 0 ≤ i) (h1 : i < 30) : aI 0 (mk (tx, pg, le, ln, tk, bd, vi, va, vl, vj, la, me)) (aBoard_spots a) (I i) = some ((bd a).1 i.toNat) := rd_aI (tgBoard_spots h) rfl h0 h1 (by decide)
theorem wBoard_spots {a : Nat} (h : isBoard a) {i : Int} (h0 : 0 ≤ i) (h1 : i < 30) {v : Int32} : sI 0 (mk (tx, pg, le, ln, tk, bd, vi, va, vl, vj, la, me)) (aBoard_spots a) (I i) v = some (mk (tx, pg, le, ln, tk, up bd a (upd (bd a).1 i.toNat (v), (bd a).2.1, (bd a).2.2.1, (bd a).2.2.2.1, (bd a).2.2.2.2), vi, va, vl, vj, la, me)) := wr_sI (tgBoard_spots h) rfl h0 h1 (by decide) (neBoard_spots rfl rfl rfl rfl) eqBoard_spots
theorem gBoard_placesOfSign {a : Nat} (h : isBoard a) : fR (mk (tx, pg, le, ln, tk, bd, vi, va, vl, vj, la, me)) a 0 3 = some (aBoard_placesOfSign a) := rd_fR h rfl rfl
theorem nBoard_placesOfSign {a : Nat} (h : isBoard a) : aN (mk (tx, pg, le, ln, tk, bd, vi, va, vl, vj, la, me)) (aBoard_placesOfSign a) = some (I 128) := rd_aN (tgBoard_placesOfSign h) rfl (by decide)
theorem rBoard_placesOfSign {a : Nat} (h : isBoard a) {i : Int} (h0 : 0 ≤ i) (h1 : i < 128) : aI 0 (mk (tx, pg, le, ln, tk, bd, vi, va, vl, vj, la, me)) (aBoard_placesOfSign a) (I i) = some ((bd a).2.1 i.toNat) := rd_aI (tgBoard_placesOfSign h) rfl h0 h1 (by decide)
theorem wBoard_placesOfSign {a : Nat} (h : isBoard a) {i : Int} (h0 : 0 ≤ i) (h1 : i < 128) {v : Int32} : sI 0 (mk (tx, pg, le, ln, tk, bd, vi, va, vl, vj, la, me)) (aBoard_placesOfSign a) (I i) v = some (mk (tx, pg, le, ln, tk, up bd a ((bd a).1, upd (bd a).2.1 i.toNat (v), (bd a).2.2.1, (bd a).2.2.2.1, (bd a).2.2.2.2), vi, va, vl, vj, la, me)) := wr_sI (tgBoard_placesOfSign h) rfl h0 h1 (by decide) (neBoard_placesOfSign rfl rfl rfl rfl) eqBoard_placesOfSign
theorem gBoard_cutPlaces {a : Nat} (h : isBoard a) : fR (mk (tx, pg, le, ln, tk, bd, vi, va, vl, vj, la, me)) a 0 4 = some (aBoard_cutPlaces a) := rd_fR h rfl rfl
theorem nBoard_cutPlaces {a : Nat} (h : isBoard a) : aN (mk (tx, pg, le, ln, tk, bd, vi, va, vl, vj, la, me)) (aBoard_cutPlaces a) = some (I 1764) := rd_aN (tgBoard_cutPlaces h) rfl (by decide)
theorem rBoard_cutPlaces {a : Nat} (h : isBoard a) {i : Int} (h0 : 0 ≤ i) (h1 : i < 1764) : aI 0 (mk (tx, pg, le, ln, tk, bd, vi, va, vl, vj, la, me)) (aBoard_cutPlaces a) (I i) = some ((bd a).2.2.1 i.toNat) := rd_aI (tgBoard_cutPlaces h) rfl h0 h1 (by decide)
theorem wBoard_cutPlaces {a : Nat} (h : isBoard a) {i : Int} (h0 : 0 ≤ i) (h1 : i < 1764) {v : Int32} : sI 0 (mk (tx, pg, le, ln, tk, bd, vi, va, vl, vj, la, me)) (aBoard_cutPlaces a) (I i) v = some (mk (tx, pg, le, ln, tk, up bd a ((bd a).1, (bd a).2.1, upd (bd a).2.2.1 i.toNat (v), (bd a).2.2.2.1, (bd a).2.2.2.2), vi, va, vl, vj, la, me)) := wr_sI (tgBoard_cutPlaces h) rfl h0 h1 (by decide) (neBoard_cutPlaces rfl rfl rfl rfl) eqBoard_cutPlaces
theorem gBoard_eachPlaces {a : Nat} (h : isBoard a) : fR (mk (tx, pg, le, ln, tk, bd, vi, va, vl, vj, la, me)) a 0 5 = some (aBoard_eachPlaces a) := rd_fR h rfl rfl
theorem nBoard_eachPlaces {a : Nat} (h : isBoard a) : aN (mk (tx, pg, le, ln, tk, bd, vi, va, vl, vj, la, me)) (aBoard_eachPlaces a) = some (I 72) := rd_aN (tgBoard_eachPlaces h) rfl (by decide)
theorem rBoard_eachPlaces {a : Nat} (h : isBoard a) {i : Int} (h0 : 0 ≤ i) (h1 : i < 72) : aI 0 (mk (tx, pg, le, ln, tk, bd, vi, va, vl, vj, la, me)) (aBoard_eachPlaces a) (I i) = some ((bd a).2.2.2.1 i.toNat) := rd_aI (tgBoard_eachPlaces h) rfl h0 h1 (by decide)
theorem wBoard_eachPlaces {a : Nat} (h : isBoard a) {i : Int} (h0 : 0 ≤ i) (h1 : i < 72) {v : Int32} : sI 0 (mk (tx, pg, le, ln, tk, bd, vi, va, vl, vj, la, me)) (aBoard_eachPlaces a) (I i) v = some (mk (tx, pg, le, ln, tk, up bd a ((bd a).1, (bd a).2.1, (bd a).2.2.1, upd (bd a).2.2.2.1 i.toNat (v), (bd a).2.2.2.2), vi, va, vl, vj, la, me)) := wr_sI (tgBoard_eachPlaces h) rfl h0 h1 (by decide) (neBoard_eachPlaces rfl rfl rfl rfl) eqBoard_eachPlaces
theorem gBoard_eachSizes {a : Nat} (h : isBoard a) : fR (mk (tx, pg, le, ln, tk, bd, vi, va, vl, vj, la, me)) a 0 6 = some (aBoard_eachSizes a) := rd_fR h rfl rfl
theorem nBoard_eachSizes {a : Nat} (h : isBoard a) : aN (mk (tx, pg, le, ln, tk, bd, vi, va, vl, vj, la, me)) (aBoard_eachSizes a) = some (I 72) := rd_aN (tgBoard_eachSizes h) rfl (by decide)
theorem rBoard_eachSizes {a : Nat} (h : isBoard a) {i : Int} (h0 : 0 ≤ i) (h1 : i < 72) : aI 0 (mk (tx, pg, le, ln, tk, bd, vi, va, vl, vj, la, me)) (aBoard_eachSizes a) (I i) = some ((bd a).2.2.2.2 i.toNat) := rd_aI (tgBoard_eachSizes h) rfl h0 h1 (by decide)
theorem wBoard_eachSizes {a : Nat} (h : isBoard a) {i : Int} (h0 : 0 ≤ i) (h1 : i < 72) {v : Int32} : sI 0 (mk (tx, pg, le, ln, tk, bd, vi, va, vl, vj, la, me)) (aBoard_eachSizes a) (I i) v = some (mk (tx, pg, le, ln, tk, up bd a ((bd a).1, (bd a).2.1, (bd a).2.2.1, (bd a).2.2.2.1, upd (bd a).2.2.2.2 i.toNat (v)), vi, va, vl, vj, la, me)) := wr_sI (tgBoard_eachSizes h) rfl h0 h1 (by decide) (neBoard_eachSizes rfl rfl rfl rfl) eqBoard_eachSizes
theorem gBoard_made {a : Nat} (h : isBoard a) : fR (mk (tx, pg, le, ln, tk, bd, vi, va, vl, vj, la, me)) a 0 7 = some (aBoard_made a) := rd_fR h rfl rfl
theorem cFinder  : isC (mk (tx, pg, le, ln, tk, bd, vi, va, vl, vj, la, me)) aFinder 1 = true := rd_isC tgFinder rfl
theorem gFinder_found  : fR (mk (tx, pg, le, ln, tk, bd, vi, va, vl, vj, la, me)) aFinder 1 0 = some (aFinder_found) := rd_fR tgFinder rfl rfl
theorem nFinder_found  : aN (mk (tx, pg, le, ln, tk, bd, vi, va, vl, vj, la, me)) (aFinder_found) = some (I 5) := rd_aN tgFinder_found rfl (by decide)
theorem rFinder_found  {i : Int} (h0 : 0 ≤ i) (h1 : i < 5) : aR (mk (tx, pg, le, ln, tk, bd, vi, va, vl, vj, la, me)) (aFinder_found) (I i) = some (eFinder_found i.toNat) := (rd_aR tgFinder_found rfl (by decide) h0 h1 (by decide)).trans (rch_lt (by omega))
theorem gFinder_foundCount : fI (mk (tx, pg, le, ln, tk, bd, vi, va, vl, vj, la, me)) aFinder 1 1 = some (vi 101) := rd_fI tgFinder rfl rfl
theorem pFinder_foundCount {v : Int32} : pF (mk (tx, pg, le, ln, tk, bd, vi, va, vl, vj, la, me)) aFinder 1 1 (.int v) = some (mk (tx, pg, le, ln, tk, bd, up vi 101 v, va, vl, vj, la, me)) := wr_F tgFinder rfl (Nat.le_of_ble_eq_true rfl) (ne_viFinder (fun i hi => up_ne (by omega))) rfl
theorem gFinder_stock  : fR (mk (tx, pg, le, ln, tk, bd, vi, va, vl, vj, la, me)) aFinder 1 2 = some (aStock) := rd_fR tgFinder rfl rfl
theorem gFinder_lookedAt : fO (mk (tx, pg, le, ln, tk, bd, vi, va, vl, vj, la, me)) aFinder 1 3 = some la := rd_fO tgFinder rfl rfl
theorem pFinder_lookedAt {v : Nat} : pF (mk (tx, pg, le, ln, tk, bd, vi, va, vl, vj, la, me)) aFinder 1 3 (.ref v) = some (mk (tx, pg, le, ln, tk, bd, vi, va, vl, vj, some v, me)) := wr_F tgFinder rfl (Nat.le_of_ble_eq_true rfl) ne_la rfl
theorem gFinder_boardCount : fI (mk (tx, pg, le, ln, tk, bd, vi, va, vl, vj, la, me)) aFinder 1 4 = some (vi 104) := rd_fI tgFinder rfl rfl
theorem pFinder_boardCount {v : Int32} : pF (mk (tx, pg, le, ln, tk, bd, vi, va, vl, vj, la, me)) aFinder 1 4 (.int v) = some (mk (tx, pg, le, ln, tk, bd, up vi 104 v, va, vl, vj, la, me)) := wr_F tgFinder rfl (Nat.le_of_ble_eq_true rfl) (ne_viFinder (fun i hi => up_ne (by omega))) rfl
theorem gFinder_pins  : fR (mk (tx, pg, le, ln, tk, bd, vi, va, vl, vj, la, me)) aFinder 1 5 = some (aFinder_pins) := rd_fR tgFinder rfl rfl
theorem nFinder_pins  : aN (mk (tx, pg, le, ln, tk, bd, vi, va, vl, vj, la, me)) (aFinder_pins) = some (I 4) := rd_aN tgFinder_pins rfl (by decide)
theorem rFinder_pins {i : Int} (h0 : 0 ≤ i) (h1 : i < 4) : aI 0 (mk (tx, pg, le, ln, tk, bd, vi, va, vl, vj, la, me)) (aFinder_pins) (I i) = some (va 513 i.toNat) := rd_aI tgFinder_pins rfl h0 h1 (by decide)
theorem wFinder_pins {i : Int} (h0 : 0 ≤ i) (h1 : i < 4) {v : Int32} : sI 0 (mk (tx, pg, le, ln, tk, bd, vi, va, vl, vj, la, me)) (aFinder_pins) (I i) v = some (mk (tx, pg, le, ln, tk, bd, vi, up va 513 (upd (va 513) i.toNat (v)), vl, vj, la, me)) := wr_sI tgFinder_pins rfl h0 h1 (by decide) ne_va eq_va
theorem gFinder_pinIndexes  : fR (mk (tx, pg, le, ln, tk, bd, vi, va, vl, vj, la, me)) aFinder 1 6 = some (aFinder_pinIndexes) := rd_fR tgFinder rfl rfl
theorem nFinder_pinIndexes  : aN (mk (tx, pg, le, ln, tk, bd, vi, va, vl, vj, la, me)) (aFinder_pinIndexes) = some (I 4) := rd_aN tgFinder_pinIndexes rfl (by decide)
theorem rFinder_pinIndexes {i : Int} (h0 : 0 ≤ i) (h1 : i < 4) : aI 0 (mk (tx, pg, le, ln, tk, bd, vi, va, vl, vj, la, me)) (aFinder_pinIndexes) (I i) = some (va 514 i.toNat) := rd_aI tgFinder_pinIndexes rfl h0 h1 (by decide)
theorem wFinder_pinIndexes {i : Int} (h0 : 0 ≤ i) (h1 : i < 4) {v : Int32} : sI 0 (mk (tx, pg, le, ln, tk, bd, vi, va, vl, vj, la, me)) (aFinder_pinIndexes) (I i) v = some (mk (tx, pg, le, ln, tk, bd, vi, up va 514 (upd (va 514) i.toNat (v)), vl, vj, la, me)) := wr_sI tgFinder_pinIndexes rfl h0 h1 (by decide) ne_va eq_va
theorem gFinder_isPinned : fI (mk (tx, pg, le, ln, tk, bd, vi, va, vl, vj, la, me)) aFinder 1 7 = some (vi 107) := rd_fI tgFinder rfl rfl
theorem pFinder_isPinned {v : Int32} : pF (mk (tx, pg, le, ln, tk, bd, vi, va, vl, vj, la, me)) aFinder 1 7 (.int v) = some (mk (tx, pg, le, ln, tk, bd, up vi 107 v, va, vl, vj, la, me)) := wr_F tgFinder rfl (Nat.le_of_ble_eq_true rfl) (ne_viFinder (fun i hi => up_ne (by omega))) rfl
theorem gFinder_ways  : fR (mk (tx, pg, le, ln, tk, bd, vi, va, vl, vj, la, me)) aFinder 1 8 = some (aFinder_ways) := rd_fR tgFinder rfl rfl
theorem nFinder_ways  : aN (mk (tx, pg, le, ln, tk, bd, vi, va, vl, vj, la, me)) (aFinder_ways) = some (I 924) := rd_aN tgFinder_ways rfl (by decide)
theorem rFinder_ways {i : Int} (h0 : 0 ≤ i) (h1 : i < 924) : aJ (mk (tx, pg, le, ln, tk, bd, vi, va, vl, vj, la, me)) (aFinder_ways) (I i) = some (vl 515 i.toNat) := rd_aJ tgFinder_ways rfl h0 h1 (by decide)
theorem wFinder_ways {i : Int} (h0 : 0 ≤ i) (h1 : i < 924) {v : Int64} : sJ (mk (tx, pg, le, ln, tk, bd, vi, va, vl, vj, la, me)) (aFinder_ways) (I i) v = some (mk (tx, pg, le, ln, tk, bd, vi, va, up vl 515 (vp_updL (vl 515) i.toNat v), vj, la, me)) := wr_sJ tgFinder_ways rfl h0 h1 (by decide) ne_vl eq_vl
theorem gFinder_knownKeys  : fR (mk (tx, pg, le, ln, tk, bd, vi, va, vl, vj, la, me)) aFinder 1 9 = some (aFinder_knownKeys) := rd_fR tgFinder rfl rfl
theorem nFinder_knownKeys  : aN (mk (tx, pg, le, ln, tk, bd, vi, va, vl, vj, la, me)) (aFinder_knownKeys) = some (I 2048) := rd_aN tgFinder_knownKeys rfl (by decide)
theorem rFinder_knownKeys {i : Int} (h0 : 0 ≤ i) (h1 : i < 2048) : aJ (mk (tx, pg, le, ln, tk, bd, vi, va, vl, vj, la, me)) (aFinder_knownKeys) (I i) = some (vl 516 i.toNat) := rd_aJ tgFinder_knownKeys rfl h0 h1 (by decide)
theorem wFinder_knownKeys {i : Int} (h0 : 0 ≤ i) (h1 : i < 2048) {v : Int64} : sJ (mk (tx, pg, le, ln, tk, bd, vi, va, vl, vj, la, me)) (aFinder_knownKeys) (I i) v = some (mk (tx, pg, le, ln, tk, bd, vi, va, up vl 516 (vp_updL (vl 516) i.toNat v), vj, la, me)) := wr_sJ tgFinder_knownKeys rfl h0 h1 (by decide) ne_vl eq_vl
theorem gFinder_knownEndings  : fR (mk (tx, pg, le, ln, tk, bd, vi, va, vl, vj, la, me)) aFinder 1 10 = some (aFinder_knownEndings) := rd_fR tgFinder rfl rfl
theorem nFinder_knownEndings  : aN (mk (tx, pg, le, ln, tk, bd, vi, va, vl, vj, la, me)) (aFinder_knownEndings) = some (I 2048) := rd_aN tgFinder_knownEndings rfl (by decide)
theorem rFinder_knownEndings {i : Int} (h0 : 0 ≤ i) (h1 : i < 2048) : aJ (mk (tx, pg, le, ln, tk, bd, vi, va, vl, vj, la, me)) (aFinder_knownEndings) (I i) = some (vl 517 i.toNat) := rd_aJ tgFinder_knownEndings rfl h0 h1 (by decide)
theorem wFinder_knownEndings {i : Int} (h0 : 0 ≤ i) (h1 : i < 2048) {v : Int64} : sJ (mk (tx, pg, le, ln, tk, bd, vi, va, vl, vj, la, me)) (aFinder_knownEndings) (I i) v = some (mk (tx, pg, le, ln, tk, bd, vi, va, up vl 517 (vp_updL (vl 517) i.toNat v), vj, la, me)) := wr_sJ tgFinder_knownEndings rfl h0 h1 (by decide) ne_vl eq_vl
theorem gFinder_searches : fJ (mk (tx, pg, le, ln, tk, bd, vi, va, vl, vj, la, me)) aFinder 1 11 = some vj := rd_fJ tgFinder rfl rfl
theorem pFinder_searches {v : Int64} : pF (mk (tx, pg, le, ln, tk, bd, vi, va, vl, vj, la, me)) aFinder 1 11 (.long v) = some (mk (tx, pg, le, ln, tk, bd, vi, va, vl, v, la, me)) := wr_F tgFinder rfl (Nat.le_of_ble_eq_true rfl) ne_vj rfl
theorem gFinder_at_  : fR (mk (tx, pg, le, ln, tk, bd, vi, va, vl, vj, la, me)) aFinder 1 12 = some (aFinder_at_) := rd_fR tgFinder rfl rfl
theorem nFinder_at_  : aN (mk (tx, pg, le, ln, tk, bd, vi, va, vl, vj, la, me)) (aFinder_at_) = some (I 20) := rd_aN tgFinder_at_ rfl (by decide)
theorem rFinder_at_ {i : Int} (h0 : 0 ≤ i) (h1 : i < 20) : aI 0 (mk (tx, pg, le, ln, tk, bd, vi, va, vl, vj, la, me)) (aFinder_at_) (I i) = some (va 518 i.toNat) := rd_aI tgFinder_at_ rfl h0 h1 (by decide)
theorem wFinder_at_ {i : Int} (h0 : 0 ≤ i) (h1 : i < 20) {v : Int32} : sI 0 (mk (tx, pg, le, ln, tk, bd, vi, va, vl, vj, la, me)) (aFinder_at_) (I i) v = some (mk (tx, pg, le, ln, tk, bd, vi, up va 518 (upd (va 518) i.toNat (v)), vl, vj, la, me)) := wr_sI tgFinder_at_ rfl h0 h1 (by decide) ne_va eq_va
theorem gFinder_row  : fR (mk (tx, pg, le, ln, tk, bd, vi, va, vl, vj, la, me)) aFinder 1 13 = some (aFinder_row) := rd_fR tgFinder rfl rfl
theorem nFinder_row  : aN (mk (tx, pg, le, ln, tk, bd, vi, va, vl, vj, la, me)) (aFinder_row) = some (I 4) := rd_aN tgFinder_row rfl (by decide)
theorem rFinder_row {i : Int} (h0 : 0 ≤ i) (h1 : i < 4) : aI 0 (mk (tx, pg, le, ln, tk, bd, vi, va, vl, vj, la, me)) (aFinder_row) (I i) = some (va 519 i.toNat) := rd_aI tgFinder_row rfl h0 h1 (by decide)
theorem wFinder_row {i : Int} (h0 : 0 ≤ i) (h1 : i < 4) {v : Int32} : sI 0 (mk (tx, pg, le, ln, tk, bd, vi, va, vl, vj, la, me)) (aFinder_row) (I i) v = some (mk (tx, pg, le, ln, tk, bd, vi, up va 519 (upd (va 519) i.toNat (v)), vl, vj, la, me)) := wr_sI tgFinder_row rfl h0 h1 (by decide) ne_va eq_va
theorem cStock  : isC (mk (tx, pg, le, ln, tk, bd, vi, va, vl, vj, la, me)) aStock 6 = true := rd_isC tgStock rfl
theorem gStock_boards  : fR (mk (tx, pg, le, ln, tk, bd, vi, va, vl, vj, la, me)) aStock 6 0 = some (aStock_boards) := rd_fR tgStock rfl rfl
theorem nStock_boards  : aN (mk (tx, pg, le, ln, tk, bd, vi, va, vl, vj, la, me)) (aStock_boards) = some (I 4) := rd_aN tgStock_boards rfl (by decide)
theorem rStock_boards  {i : Int} (h0 : 0 ≤ i) (h1 : i < 4) : aR (mk (tx, pg, le, ln, tk, bd, vi, va, vl, vj, la, me)) (aStock_boards) (I i) = some (eStock_boards i.toNat) := (rd_aR tgStock_boards rfl (by decide) h0 h1 (by decide)).trans (rch_lt (by omega))
theorem gStock_members  : fR (mk (tx, pg, le, ln, tk, bd, vi, va, vl, vj, la, me)) aStock 6 1 = some (aStock_members) := rd_fR tgStock rfl rfl
theorem nStock_members  : aN (mk (tx, pg, le, ln, tk, bd, vi, va, vl, vj, la, me)) (aStock_members) = some (I 4) := rd_aN tgStock_members rfl (by decide)
theorem rStock_members {i : Int} (h0 : 0 ≤ i) (h1 : i < 4) : aR (mk (tx, pg, le, ln, tk, bd, vi, va, vl, vj, la, me)) (aStock_members) (I i) = me i.toNat := rd_aR tgStock_members rfl (by decide) h0 h1 (by decide)
theorem wStock_members {i : Int} (h0 : 0 ≤ i) (h1 : i < 4) {q : Nat} (hq : isBoard q) : sR (mk (tx, pg, le, ln, tk, bd, vi, va, vl, vj, la, me)) (aStock_members) (I i) q = some (mk (tx, pg, le, ln, tk, bd, vi, va, vl, vj, la, va_up me i.toNat (some q))) := wr_sR tgStock_members rfl hq rfl (by decide) h0 h1 (by decide) ne_me rfl
theorem gStock_memberCount : fI (mk (tx, pg, le, ln, tk, bd, vi, va, vl, vj, la, me)) aStock 6 2 = some (vi 602) := rd_fI tgStock rfl rfl
theorem pStock_memberCount {v : Int32} : pF (mk (tx, pg, le, ln, tk, bd, vi, va, vl, vj, la, me)) aStock 6 2 (.int v) = some (mk (tx, pg, le, ln, tk, bd, up vi 602 v, va, vl, vj, la, me)) := wr_F tgStock rfl (Nat.le_of_ble_eq_true rfl) (ne_viStock (fun i hi => up_ne (by omega))) rfl
theorem gStock_atoms  : fR (mk (tx, pg, le, ln, tk, bd, vi, va, vl, vj, la, me)) aStock 6 3 = some (aStock_atoms) := rd_fR tgStock rfl rfl
theorem nStock_atoms  : aN (mk (tx, pg, le, ln, tk, bd, vi, va, vl, vj, la, me)) (aStock_atoms) = some (I 1812) := rd_aN tgStock_atoms rfl (by decide)
theorem rStock_atoms {i : Int} (h0 : 0 ≤ i) (h1 : i < 1812) : aI 0 (mk (tx, pg, le, ln, tk, bd, vi, va, vl, vj, la, me)) (aStock_atoms) (I i) = some (va 444 i.toNat) := rd_aI tgStock_atoms rfl h0 h1 (by decide)
theorem wStock_atoms {i : Int} (h0 : 0 ≤ i) (h1 : i < 1812) {v : Int32} : sI 0 (mk (tx, pg, le, ln, tk, bd, vi, va, vl, vj, la, me)) (aStock_atoms) (I i) v = some (mk (tx, pg, le, ln, tk, bd, vi, up va 444 (upd (va 444) i.toNat (v)), vl, vj, la, me)) := wr_sI tgStock_atoms rfl h0 h1 (by decide) ne_va eq_va
theorem gStock_weights  : fR (mk (tx, pg, le, ln, tk, bd, vi, va, vl, vj, la, me)) aStock 6 4 = some (aStock_weights) := rd_fR tgStock rfl rfl
theorem nStock_weights  : aN (mk (tx, pg, le, ln, tk, bd, vi, va, vl, vj, la, me)) (aStock_weights) = some (I 1812) := rd_aN tgStock_weights rfl (by decide)
theorem rStock_weights {i : Int} (h0 : 0 ≤ i) (h1 : i < 1812) : aI 0 (mk (tx, pg, le, ln, tk, bd, vi, va, vl, vj, la, me)) (aStock_weights) (I i) = some (va 445 i.toNat) := rd_aI tgStock_weights rfl h0 h1 (by decide)
theorem wStock_weights {i : Int} (h0 : 0 ≤ i) (h1 : i < 1812) {v : Int32} : sI 0 (mk (tx, pg, le, ln, tk, bd, vi, va, vl, vj, la, me)) (aStock_weights) (I i) v = some (mk (tx, pg, le, ln, tk, bd, vi, up va 445 (upd (va 445) i.toNat (v)), vl, vj, la, me)) := wr_sI tgStock_weights rfl h0 h1 (by decide) ne_va eq_va
theorem gStock_places  : fR (mk (tx, pg, le, ln, tk, bd, vi, va, vl, vj, la, me)) aStock 6 5 = some (aStock_places) := rd_fR tgStock rfl rfl
theorem nStock_places  : aN (mk (tx, pg, le, ln, tk, bd, vi, va, vl, vj, la, me)) (aStock_places) = some (I 7248) := rd_aN tgStock_places rfl (by decide)
theorem rStock_places {i : Int} (h0 : 0 ≤ i) (h1 : i < 7248) : aI 0 (mk (tx, pg, le, ln, tk, bd, vi, va, vl, vj, la, me)) (aStock_places) (I i) = some (va 446 i.toNat) := rd_aI tgStock_places rfl h0 h1 (by decide)
theorem wStock_places {i : Int} (h0 : 0 ≤ i) (h1 : i < 7248) {v : Int32} : sI 0 (mk (tx, pg, le, ln, tk, bd, vi, va, vl, vj, la, me)) (aStock_places) (I i) v = some (mk (tx, pg, le, ln, tk, bd, vi, up va 446 (upd (va 446) i.toNat (v)), vl, vj, la, me)) := wr_sI tgStock_places rfl h0 h1 (by decide) ne_va eq_va
theorem gStock_sizes  : fR (mk (tx, pg, le, ln, tk, bd, vi, va, vl, vj, la, me)) aStock 6 6 = some (aStock_sizes) := rd_fR tgStock rfl rfl
theorem nStock_sizes  : aN (mk (tx, pg, le, ln, tk, bd, vi, va, vl, vj, la, me)) (aStock_sizes) = some (I 7248) := rd_aN tgStock_sizes rfl (by decide)
theorem rStock_sizes {i : Int} (h0 : 0 ≤ i) (h1 : i < 7248) : aI 0 (mk (tx, pg, le, ln, tk, bd, vi, va, vl, vj, la, me)) (aStock_sizes) (I i) = some (va 447 i.toNat) := rd_aI tgStock_sizes rfl h0 h1 (by decide)
theorem wStock_sizes {i : Int} (h0 : 0 ≤ i) (h1 : i < 7248) {v : Int32} : sI 0 (mk (tx, pg, le, ln, tk, bd, vi, va, vl, vj, la, me)) (aStock_sizes) (I i) v = some (mk (tx, pg, le, ln, tk, bd, vi, up va 447 (upd (va 447) i.toNat (v)), vl, vj, la, me)) := wr_sI tgStock_sizes rfl h0 h1 (by decide) ne_va eq_va
theorem gStock_atomCount : fI (mk (tx, pg, le, ln, tk, bd, vi, va, vl, vj, la, me)) aStock 6 7 = some (vi 607) := rd_fI tgStock rfl rfl
theorem pStock_atomCount {v : Int32} : pF (mk (tx, pg, le, ln, tk, bd, vi, va, vl, vj, la, me)) aStock 6 7 (.int v) = some (mk (tx, pg, le, ln, tk, bd, up vi 607 v, va, vl, vj, la, me)) := wr_F tgStock rfl (Nat.le_of_ble_eq_true rfl) (ne_viStock (fun i hi => up_ne (by omega))) rfl
theorem gStock_shared  : fR (mk (tx, pg, le, ln, tk, bd, vi, va, vl, vj, la, me)) aStock 6 8 = some (aStock_shared) := rd_fR tgStock rfl rfl
theorem nStock_shared  : aN (mk (tx, pg, le, ln, tk, bd, vi, va, vl, vj, la, me)) (aStock_shared) = some (I 84) := rd_aN tgStock_shared rfl (by decide)
theorem rStock_shared {i : Int} (h0 : 0 ≤ i) (h1 : i < 84) : aI 0 (mk (tx, pg, le, ln, tk, bd, vi, va, vl, vj, la, me)) (aStock_shared) (I i) = some (va 448 i.toNat) := rd_aI tgStock_shared rfl h0 h1 (by decide)
theorem wStock_shared {i : Int} (h0 : 0 ≤ i) (h1 : i < 84) {v : Int32} : sI 0 (mk (tx, pg, le, ln, tk, bd, vi, va, vl, vj, la, me)) (aStock_shared) (I i) v = some (mk (tx, pg, le, ln, tk, bd, vi, up va 448 (upd (va 448) i.toNat (v)), vl, vj, la, me)) := wr_sI tgStock_shared rfl h0 h1 (by decide) ne_va eq_va
theorem gStock_groups  : fR (mk (tx, pg, le, ln, tk, bd, vi, va, vl, vj, la, me)) aStock 6 9 = some (aStock_groups) := rd_fR tgStock rfl rfl
theorem nStock_groups  : aN (mk (tx, pg, le, ln, tk, bd, vi, va, vl, vj, la, me)) (aStock_groups) = some (I 1812) := rd_aN tgStock_groups rfl (by decide)
theorem rStock_groups {i : Int} (h0 : 0 ≤ i) (h1 : i < 1812) : aI 0 (mk (tx, pg, le, ln, tk, bd, vi, va, vl, vj, la, me)) (aStock_groups) (I i) = some (va 449 i.toNat) := rd_aI tgStock_groups rfl h0 h1 (by decide)
theorem wStock_groups {i : Int} (h0 : 0 ≤ i) (h1 : i < 1812) {v : Int32} : sI 0 (mk (tx, pg, le, ln, tk, bd, vi, va, vl, vj, la, me)) (aStock_groups) (I i) v = some (mk (tx, pg, le, ln, tk, bd, vi, up va 449 (upd (va 449) i.toNat (v)), vl, vj, la, me)) := wr_sI tgStock_groups rfl h0 h1 (by decide) ne_va eq_va
theorem gStock_groupWeights  : fR (mk (tx, pg, le, ln, tk, bd, vi, va, vl, vj, la, me)) aStock 6 10 = some (aStock_groupWeights) := rd_fR tgStock rfl rfl
theorem nStock_groupWeights  : aN (mk (tx, pg, le, ln, tk, bd, vi, va, vl, vj, la, me)) (aStock_groupWeights) = some (I 1812) := rd_aN tgStock_groupWeights rfl (by decide)
theorem rStock_groupWeights {i : Int} (h0 : 0 ≤ i) (h1 : i < 1812) : aI 0 (mk (tx, pg, le, ln, tk, bd, vi, va, vl, vj, la, me)) (aStock_groupWeights) (I i) = some (va 450 i.toNat) := rd_aI tgStock_groupWeights rfl h0 h1 (by decide)
theorem wStock_groupWeights {i : Int} (h0 : 0 ≤ i) (h1 : i < 1812) {v : Int32} : sI 0 (mk (tx, pg, le, ln, tk, bd, vi, va, vl, vj, la, me)) (aStock_groupWeights) (I i) v = some (mk (tx, pg, le, ln, tk, bd, vi, up va 450 (upd (va 450) i.toNat (v)), vl, vj, la, me)) := wr_sI tgStock_groupWeights rfl h0 h1 (by decide) ne_va eq_va
theorem gStock_groupCount : fI (mk (tx, pg, le, ln, tk, bd, vi, va, vl, vj, la, me)) aStock 6 11 = some (vi 611) := rd_fI tgStock rfl rfl
theorem pStock_groupCount {v : Int32} : pF (mk (tx, pg, le, ln, tk, bd, vi, va, vl, vj, la, me)) aStock 6 11 (.int v) = some (mk (tx, pg, le, ln, tk, bd, up vi 611 v, va, vl, vj, la, me)) := wr_F tgStock rfl (Nat.le_of_ble_eq_true rfl) (ne_viStock (fun i hi => up_ne (by omega))) rfl
theorem gStock_newest  : fR (mk (tx, pg, le, ln, tk, bd, vi, va, vl, vj, la, me)) aStock 6 12 = some (aStock_newest) := rd_fR tgStock rfl rfl
theorem nStock_newest  : aN (mk (tx, pg, le, ln, tk, bd, vi, va, vl, vj, la, me)) (aStock_newest) = some (I 21) := rd_aN tgStock_newest rfl (by decide)
theorem rStock_newest {i : Int} (h0 : 0 ≤ i) (h1 : i < 21) : aI 0 (mk (tx, pg, le, ln, tk, bd, vi, va, vl, vj, la, me)) (aStock_newest) (I i) = some (va 451 i.toNat) := rd_aI tgStock_newest rfl h0 h1 (by decide)
theorem wStock_newest {i : Int} (h0 : 0 ≤ i) (h1 : i < 21) {v : Int32} : sI 0 (mk (tx, pg, le, ln, tk, bd, vi, va, vl, vj, la, me)) (aStock_newest) (I i) v = some (mk (tx, pg, le, ln, tk, bd, vi, up va 451 (upd (va 451) i.toNat (v)), vl, vj, la, me)) := wr_sI tgStock_newest rfl h0 h1 (by decide) ne_va eq_va
theorem gStock_older  : fR (mk (tx, pg, le, ln, tk, bd, vi, va, vl, vj, la, me)) aStock 6 13 = some (aStock_older) := rd_fR tgStock rfl rfl
theorem nStock_older  : aN (mk (tx, pg, le, ln, tk, bd, vi, va, vl, vj, la, me)) (aStock_older) = some (I 1812) := rd_aN tgStock_older rfl (by decide)
theorem rStock_older {i : Int} (h0 : 0 ≤ i) (h1 : i < 1812) : aI 0 (mk (tx, pg, le, ln, tk, bd, vi, va, vl, vj, la, me)) (aStock_older) (I i) = some (va 452 i.toNat) := rd_aI tgStock_older rfl h0 h1 (by decide)
theorem wStock_older {i : Int} (h0 : 0 ≤ i) (h1 : i < 1812) {v : Int32} : sI 0 (mk (tx, pg, le, ln, tk, bd, vi, va, vl, vj, la, me)) (aStock_older) (I i) v = some (mk (tx, pg, le, ln, tk, bd, vi, up va 452 (upd (va 452) i.toNat (v)), vl, vj, la, me)) := wr_sI tgStock_older rfl h0 h1 (by decide) ne_va eq_va
theorem cLearner  : isC (mk (tx, pg, le, ln, tk, bd, vi, va, vl, vj, la, me)) aLearner 2 = true := rd_isC tgLearner rfl
theorem gLearner_finder  : fR (mk (tx, pg, le, ln, tk, bd, vi, va, vl, vj, la, me)) aLearner 2 0 = some (aFinder) := rd_fR tgLearner rfl rfl
theorem gLearner_chosen  : fR (mk (tx, pg, le, ln, tk, bd, vi, va, vl, vj, la, me)) aLearner 2 1 = some (aLearner_chosen) := rd_fR tgLearner rfl rfl
theorem nLearner_chosen  : aN (mk (tx, pg, le, ln, tk, bd, vi, va, vl, vj, la, me)) (aLearner_chosen) = some (I 16) := rd_aN tgLearner_chosen rfl (by decide)
theorem rLearner_chosen  {i : Int} (h0 : 0 ≤ i) (h1 : i < 16) : aR (mk (tx, pg, le, ln, tk, bd, vi, va, vl, vj, la, me)) (aLearner_chosen) (I i) = some (eLearner_chosen i.toNat) := (rd_aR tgLearner_chosen rfl (by decide) h0 h1 (by decide)).trans (rch_lt (by omega))
theorem gLearner_tried  : fR (mk (tx, pg, le, ln, tk, bd, vi, va, vl, vj, la, me)) aLearner 2 2 = some (aLearner_tried) := rd_fR tgLearner rfl rfl
theorem nLearner_tried  : aN (mk (tx, pg, le, ln, tk, bd, vi, va, vl, vj, la, me)) (aLearner_tried) = some (I 16) := rd_aN tgLearner_tried rfl (by decide)
theorem rLearner_tried {i : Int} (h0 : 0 ≤ i) (h1 : i < 16) : aI 0 (mk (tx, pg, le, ln, tk, bd, vi, va, vl, vj, la, me)) (aLearner_tried) (I i) = some (va 531 i.toNat) := rd_aI tgLearner_tried rfl h0 h1 (by decide)
theorem wLearner_tried {i : Int} (h0 : 0 ≤ i) (h1 : i < 16) {v : Int32} : sI 0 (mk (tx, pg, le, ln, tk, bd, vi, va, vl, vj, la, me)) (aLearner_tried) (I i) v = some (mk (tx, pg, le, ln, tk, bd, vi, up va 531 (upd (va 531) i.toNat (v)), vl, vj, la, me)) := wr_sI tgLearner_tried rfl h0 h1 (by decide) ne_va eq_va
theorem gLearner_made  : fR (mk (tx, pg, le, ln, tk, bd, vi, va, vl, vj, la, me)) aLearner 2 3 = some (aLearner_made) := rd_fR tgLearner rfl rfl
theorem gLearner_madeFirst  : fR (mk (tx, pg, le, ln, tk, bd, vi, va, vl, vj, la, me)) aLearner 2 4 = some (aLearner_madeFirst) := rd_fR tgLearner rfl rfl
theorem cScript  : isC (mk (tx, pg, le, ln, tk, bd, vi, va, vl, vj, la, me)) aScript 9 = true := rd_isC tgScript rfl
theorem gScript_draft  : fR (mk (tx, pg, le, ln, tk, bd, vi, va, vl, vj, la, me)) aScript 9 0 = some (aScript_draft) := rd_fR tgScript rfl rfl
theorem gScript_made  : fR (mk (tx, pg, le, ln, tk, bd, vi, va, vl, vj, la, me)) aScript 9 1 = some (aScript_made) := rd_fR tgScript rfl rfl
theorem gScript_tasks  : fR (mk (tx, pg, le, ln, tk, bd, vi, va, vl, vj, la, me)) aScript 9 2 = some (aScript_tasks) := rd_fR tgScript rfl rfl
theorem nScript_tasks  : aN (mk (tx, pg, le, ln, tk, bd, vi, va, vl, vj, la, me)) (aScript_tasks) = some (I 3) := rd_aN tgScript_tasks rfl (by decide)
theorem rScript_tasks  {i : Int} (h0 : 0 ≤ i) (h1 : i < 3) : aR (mk (tx, pg, le, ln, tk, bd, vi, va, vl, vj, la, me)) (aScript_tasks) (I i) = some (eScript_tasks i.toNat) := (rd_aR tgScript_tasks rfl (by decide) h0 h1 (by decide)).trans (rch_lt (by omega))
theorem gScript_lines  : fR (mk (tx, pg, le, ln, tk, bd, vi, va, vl, vj, la, me)) aScript 9 3 = some (aScript_lines) := rd_fR tgScript rfl rfl
theorem nScript_lines  : aN (mk (tx, pg, le, ln, tk, bd, vi, va, vl, vj, la, me)) (aScript_lines) = some (I 8) := rd_aN tgScript_lines rfl (by decide)
theorem rScript_lines  {i : Int} (h0 : 0 ≤ i) (h1 : i < 8) : aR (mk (tx, pg, le, ln, tk, bd, vi, va, vl, vj, la, me)) (aScript_lines) (I i) = some (eScript_lines i.toNat) := (rd_aR tgScript_lines rfl (by decide) h0 h1 (by decide)).trans (rch_lt (by omega))
theorem gScript_ranBy  : fR (mk (tx, pg, le, ln, tk, bd, vi, va, vl, vj, la, me)) aScript 9 4 = some (aScript_ranBy) := rd_fR tgScript rfl rfl
theorem nScript_ranBy  : aN (mk (tx, pg, le, ln, tk, bd, vi, va, vl, vj, la, me)) (aScript_ranBy) = some (I 30) := rd_aN tgScript_ranBy rfl (by decide)
theorem rScript_ranBy  {i : Int} (h0 : 0 ≤ i) (h1 : i < 30) : aR (mk (tx, pg, le, ln, tk, bd, vi, va, vl, vj, la, me)) (aScript_ranBy) (I i) = some (eScript_ranBy i.toNat) := (rd_aR tgScript_ranBy rfl (by decide) h0 h1 (by decide)).trans (rch_lt (by omega))
theorem gScript_runCounts  : fR (mk (tx, pg, le, ln, tk, bd, vi, va, vl, vj, la, me)) aScript 9 5 = some (aScript_runCounts) := rd_fR tgScript rfl rfl
theorem nScript_runCounts  : aN (mk (tx, pg, le, ln, tk, bd, vi, va, vl, vj, la, me)) (aScript_runCounts) = some (I 30) := rd_aN tgScript_runCounts rfl (by decide)
theorem rScript_runCounts {i : Int} (h0 : 0 ≤ i) (h1 : i < 30) : aI 3 (mk (tx, pg, le, ln, tk, bd, vi, va, vl, vj, la, me)) (aScript_runCounts) (I i) = some (va 437 i.toNat) := rd_aI tgScript_runCounts rfl h0 h1 (by decide)
theorem wScript_runCounts {i : Int} (h0 : 0 ≤ i) (h1 : i < 30) {v : Int32} : sI 3 (mk (tx, pg, le, ln, tk, bd, vi, va, vl, vj, la, me)) (aScript_runCounts) (I i) v = some (mk (tx, pg, le, ln, tk, bd, vi, up va 437 (upd (va 437) i.toNat (nrT 3 v)), vl, vj, la, me)) := wr_sI tgScript_runCounts rfl h0 h1 (by decide) ne_va eq_va
theorem gScript_learner  : fR (mk (tx, pg, le, ln, tk, bd, vi, va, vl, vj, la, me)) aScript 9 6 = some (aLearner) := rd_fR tgScript rfl rfl
theorem gScript_lineCount : fI (mk (tx, pg, le, ln, tk, bd, vi, va, vl, vj, la, me)) aScript 9 7 = some (vi 907) := rd_fI tgScript rfl rfl
theorem pScript_lineCount {v : Int32} : pF (mk (tx, pg, le, ln, tk, bd, vi, va, vl, vj, la, me)) aScript 9 7 (.int v) = some (mk (tx, pg, le, ln, tk, bd, up vi 907 v, va, vl, vj, la, me)) := wr_F tgScript rfl (Nat.le_of_ble_eq_true rfl) (ne_viScript (fun i hi => up_ne (by omega))) rfl
theorem gScript_runCount : fI (mk (tx, pg, le, ln, tk, bd, vi, va, vl, vj, la, me)) aScript 9 8 = some (vi 908) := rd_fI tgScript rfl rfl
theorem pScript_runCount {v : Int32} : pF (mk (tx, pg, le, ln, tk, bd, vi, va, vl, vj, la, me)) aScript 9 8 (.int v) = some (mk (tx, pg, le, ln, tk, bd, up vi 908 v, va, vl, vj, la, me)) := wr_F tgScript rfl (Nat.le_of_ble_eq_true rfl) (ne_viScript (fun i hi => up_ne (by omega))) rfl
theorem gScript_askedLines : fI (mk (tx, pg, le, ln, tk, bd, vi, va, vl, vj, la, me)) aScript 9 9 = some (vi 909) := rd_fI tgScript rfl rfl
theorem pScript_askedLines {v : Int32} : pF (mk (tx, pg, le, ln, tk, bd, vi, va, vl, vj, la, me)) aScript 9 9 (.int v) = some (mk (tx, pg, le, ln, tk, bd, up vi 909 v, va, vl, vj, la, me)) := wr_F tgScript rfl (Nat.le_of_ble_eq_true rfl) (ne_viScript (fun i hi => up_ne (by omega))) rfl
theorem cModel  : isC (mk (tx, pg, le, ln, tk, bd, vi, va, vl, vj, la, me)) aModel 10 = true := rd_isC tgModel rfl
theorem gModel_thrown : fI (mk (tx, pg, le, ln, tk, bd, vi, va, vl, vj, la, me)) aModel 10 0 = some (vi 1000) := rd_fI tgModel rfl rfl
theorem pModel_thrown {v : Int32} : pF (mk (tx, pg, le, ln, tk, bd, vi, va, vl, vj, la, me)) aModel 10 0 (.int v) = some (mk (tx, pg, le, ln, tk, bd, up vi 1000 v, va, vl, vj, la, me)) := wr_F tgModel rfl (Nat.le_of_ble_eq_true rfl) (ne_viModel (fun i hi => up_ne (by omega))) rfl
theorem gModel_draftSize : fI (mk (tx, pg, le, ln, tk, bd, vi, va, vl, vj, la, me)) aModel 10 1 = some (vi 1001) := rd_fI tgModel rfl rfl
theorem pModel_draftSize {v : Int32} : pF (mk (tx, pg, le, ln, tk, bd, vi, va, vl, vj, la, me)) aModel 10 1 (.int v) = some (mk (tx, pg, le, ln, tk, bd, up vi 1001 v, va, vl, vj, la, me)) := wr_F tgModel rfl (Nat.le_of_ble_eq_true rfl) (ne_viModel (fun i hi => up_ne (by omega))) rfl
theorem gModel_draft  : fR (mk (tx, pg, le, ln, tk, bd, vi, va, vl, vj, la, me)) aModel 10 2 = some (aModel_draft) := rd_fR tgModel rfl rfl
theorem nModel_draft  : aN (mk (tx, pg, le, ln, tk, bd, vi, va, vl, vj, la, me)) (aModel_draft) = some (I 20) := rd_aN tgModel_draft rfl (by decide)
theorem rModel_draft {i : Int} (h0 : 0 ≤ i) (h1 : i < 20) : aI 0 (mk (tx, pg, le, ln, tk, bd, vi, va, vl, vj, la, me)) (aModel_draft) (I i) = some (va 571 i.toNat) := rd_aI tgModel_draft rfl h0 h1 (by decide)
theorem wModel_draft {i : Int} (h0 : 0 ≤ i) (h1 : i < 20) {v : Int32} : sI 0 (mk (tx, pg, le, ln, tk, bd, vi, va, vl, vj, la, me)) (aModel_draft) (I i) v = some (mk (tx, pg, le, ln, tk, bd, vi, up va 571 (upd (va 571) i.toNat (v)), vl, vj, la, me)) := wr_sI tgModel_draft rfl h0 h1 (by decide) ne_va eq_va
theorem gModel_lines : fI (mk (tx, pg, le, ln, tk, bd, vi, va, vl, vj, la, me)) aModel 10 3 = some (vi 1003) := rd_fI tgModel rfl rfl
theorem pModel_lines {v : Int32} : pF (mk (tx, pg, le, ln, tk, bd, vi, va, vl, vj, la, me)) aModel 10 3 (.int v) = some (mk (tx, pg, le, ln, tk, bd, up vi 1003 v, va, vl, vj, la, me)) := wr_F tgModel rfl (Nat.le_of_ble_eq_true rfl) (ne_viModel (fun i hi => up_ne (by omega))) rfl
theorem gModel_came  : fR (mk (tx, pg, le, ln, tk, bd, vi, va, vl, vj, la, me)) aModel 10 4 = some (aModel_came) := rd_fR tgModel rfl rfl
theorem nModel_came  : aN (mk (tx, pg, le, ln, tk, bd, vi, va, vl, vj, la, me)) (aModel_came) = some (I 160) := rd_aN tgModel_came rfl (by decide)
theorem rModel_came {i : Int} (h0 : 0 ≤ i) (h1 : i < 160) : aI 0 (mk (tx, pg, le, ln, tk, bd, vi, va, vl, vj, la, me)) (aModel_came) (I i) = some (va 572 i.toNat) := rd_aI tgModel_came rfl h0 h1 (by decide)
theorem wModel_came {i : Int} (h0 : 0 ≤ i) (h1 : i < 160) {v : Int32} : sI 0 (mk (tx, pg, le, ln, tk, bd, vi, va, vl, vj, la, me)) (aModel_came) (I i) v = some (mk (tx, pg, le, ln, tk, bd, vi, up va 572 (upd (va 572) i.toNat (v)), vl, vj, la, me)) := wr_sI tgModel_came rfl h0 h1 (by decide) ne_va eq_va
theorem gModel_cameSize  : fR (mk (tx, pg, le, ln, tk, bd, vi, va, vl, vj, la, me)) aModel 10 5 = some (aModel_cameSize) := rd_fR tgModel rfl rfl
theorem nModel_cameSize  : aN (mk (tx, pg, le, ln, tk, bd, vi, va, vl, vj, la, me)) (aModel_cameSize) = some (I 8) := rd_aN tgModel_cameSize rfl (by decide)
theorem rModel_cameSize {i : Int} (h0 : 0 ≤ i) (h1 : i < 8) : aI 0 (mk (tx, pg, le, ln, tk, bd, vi, va, vl, vj, la, me)) (aModel_cameSize) (I i) = some (va 573 i.toNat) := rd_aI tgModel_cameSize rfl h0 h1 (by decide)
theorem wModel_cameSize {i : Int} (h0 : 0 ≤ i) (h1 : i < 8) {v : Int32} : sI 0 (mk (tx, pg, le, ln, tk, bd, vi, va, vl, vj, la, me)) (aModel_cameSize) (I i) v = some (mk (tx, pg, le, ln, tk, bd, vi, up va 573 (upd (va 573) i.toNat (v)), vl, vj, la, me)) := wr_sI tgModel_cameSize rfl h0 h1 (by decide) ne_va eq_va
theorem gModel_steps  : fR (mk (tx, pg, le, ln, tk, bd, vi, va, vl, vj, la, me)) aModel 10 6 = some (aModel_steps) := rd_fR tgModel rfl rfl
theorem nModel_steps  : aN (mk (tx, pg, le, ln, tk, bd, vi, va, vl, vj, la, me)) (aModel_steps) = some (I 8) := rd_aN tgModel_steps rfl (by decide)
theorem rModel_steps {i : Int} (h0 : 0 ≤ i) (h1 : i < 8) : aI 0 (mk (tx, pg, le, ln, tk, bd, vi, va, vl, vj, la, me)) (aModel_steps) (I i) = some (va 574 i.toNat) := rd_aI tgModel_steps rfl h0 h1 (by decide)
theorem wModel_steps {i : Int} (h0 : 0 ≤ i) (h1 : i < 8) {v : Int32} : sI 0 (mk (tx, pg, le, ln, tk, bd, vi, va, vl, vj, la, me)) (aModel_steps) (I i) v = some (mk (tx, pg, le, ln, tk, bd, vi, up va 574 (upd (va 574) i.toNat (v)), vl, vj, la, me)) := wr_sI tgModel_steps rfl h0 h1 (by decide) ne_va eq_va
theorem gModel_step  : fR (mk (tx, pg, le, ln, tk, bd, vi, va, vl, vj, la, me)) aModel 10 7 = some (aModel_step) := rd_fR tgModel rfl rfl
theorem nModel_step  : aN (mk (tx, pg, le, ln, tk, bd, vi, va, vl, vj, la, me)) (aModel_step) = some (I 320) := rd_aN tgModel_step rfl (by decide)
theorem rModel_step {i : Int} (h0 : 0 ≤ i) (h1 : i < 320) : aI 0 (mk (tx, pg, le, ln, tk, bd, vi, va, vl, vj, la, me)) (aModel_step) (I i) = some (va 575 i.toNat) := rd_aI tgModel_step rfl h0 h1 (by decide)
theorem wModel_step {i : Int} (h0 : 0 ≤ i) (h1 : i < 320) {v : Int32} : sI 0 (mk (tx, pg, le, ln, tk, bd, vi, va, vl, vj, la, me)) (aModel_step) (I i) v = some (mk (tx, pg, le, ln, tk, bd, vi, up va 575 (upd (va 575) i.toNat (v)), vl, vj, la, me)) := wr_sI tgModel_step rfl h0 h1 (by decide) ne_va eq_va
theorem gModel_examples  : fR (mk (tx, pg, le, ln, tk, bd, vi, va, vl, vj, la, me)) aModel 10 8 = some (aModel_examples) := rd_fR tgModel rfl rfl
theorem nModel_examples  : aN (mk (tx, pg, le, ln, tk, bd, vi, va, vl, vj, la, me)) (aModel_examples) = some (I 3) := rd_aN tgModel_examples rfl (by decide)
theorem rModel_examples {i : Int} (h0 : 0 ≤ i) (h1 : i < 3) : aI 0 (mk (tx, pg, le, ln, tk, bd, vi, va, vl, vj, la, me)) (aModel_examples) (I i) = some (va 576 i.toNat) := rd_aI tgModel_examples rfl h0 h1 (by decide)
theorem wModel_examples {i : Int} (h0 : 0 ≤ i) (h1 : i < 3) {v : Int32} : sI 0 (mk (tx, pg, le, ln, tk, bd, vi, va, vl, vj, la, me)) (aModel_examples) (I i) v = some (mk (tx, pg, le, ln, tk, bd, vi, up va 576 (upd (va 576) i.toNat (v)), vl, vj, la, me)) := wr_sI tgModel_examples rfl h0 h1 (by decide) ne_va eq_va
theorem gModel_shownOn  : fR (mk (tx, pg, le, ln, tk, bd, vi, va, vl, vj, la, me)) aModel 10 9 = some (aModel_shownOn) := rd_fR tgModel rfl rfl
theorem nModel_shownOn  : aN (mk (tx, pg, le, ln, tk, bd, vi, va, vl, vj, la, me)) (aModel_shownOn) = some (I 12) := rd_aN tgModel_shownOn rfl (by decide)
theorem rModel_shownOn {i : Int} (h0 : 0 ≤ i) (h1 : i < 12) : aI 0 (mk (tx, pg, le, ln, tk, bd, vi, va, vl, vj, la, me)) (aModel_shownOn) (I i) = some (va 577 i.toNat) := rd_aI tgModel_shownOn rfl h0 h1 (by decide)
theorem wModel_shownOn {i : Int} (h0 : 0 ≤ i) (h1 : i < 12) {v : Int32} : sI 0 (mk (tx, pg, le, ln, tk, bd, vi, va, vl, vj, la, me)) (aModel_shownOn) (I i) v = some (mk (tx, pg, le, ln, tk, bd, vi, up va 577 (upd (va 577) i.toNat (v)), vl, vj, la, me)) := wr_sI tgModel_shownOn rfl h0 h1 (by decide) ne_va eq_va
theorem gModel_example_  : fR (mk (tx, pg, le, ln, tk, bd, vi, va, vl, vj, la, me)) aModel 10 10 = some (aModel_example_) := rd_fR tgModel rfl rfl
theorem nModel_example_  : aN (mk (tx, pg, le, ln, tk, bd, vi, va, vl, vj, la, me)) (aModel_example_) = some (I 240) := rd_aN tgModel_example_ rfl (by decide)
theorem rModel_example_ {i : Int} (h0 : 0 ≤ i) (h1 : i < 240) : aI 0 (mk (tx, pg, le, ln, tk, bd, vi, va, vl, vj, la, me)) (aModel_example_) (I i) = some (va 578 i.toNat) := rd_aI tgModel_example_ rfl h0 h1 (by decide)
theorem wModel_example_ {i : Int} (h0 : 0 ≤ i) (h1 : i < 240) {v : Int32} : sI 0 (mk (tx, pg, le, ln, tk, bd, vi, va, vl, vj, la, me)) (aModel_example_) (I i) v = some (mk (tx, pg, le, ln, tk, bd, vi, up va 578 (upd (va 578) i.toNat (v)), vl, vj, la, me)) := wr_sI tgModel_example_ rfl h0 h1 (by decide) ne_va eq_va
theorem gModel_exampleSize  : fR (mk (tx, pg, le, ln, tk, bd, vi, va, vl, vj, la, me)) aModel 10 11 = some (aModel_exampleSize) := rd_fR tgModel rfl rfl
theorem nModel_exampleSize  : aN (mk (tx, pg, le, ln, tk, bd, vi, va, vl, vj, la, me)) (aModel_exampleSize) = some (I 12) := rd_aN tgModel_exampleSize rfl (by decide)
theorem rModel_exampleSize {i : Int} (h0 : 0 ≤ i) (h1 : i < 12) : aI 0 (mk (tx, pg, le, ln, tk, bd, vi, va, vl, vj, la, me)) (aModel_exampleSize) (I i) = some (va 579 i.toNat) := rd_aI tgModel_exampleSize rfl h0 h1 (by decide)
theorem wModel_exampleSize {i : Int} (h0 : 0 ≤ i) (h1 : i < 12) {v : Int32} : sI 0 (mk (tx, pg, le, ln, tk, bd, vi, va, vl, vj, la, me)) (aModel_exampleSize) (I i) v = some (mk (tx, pg, le, ln, tk, bd, vi, up va 579 (upd (va 579) i.toNat (v)), vl, vj, la, me)) := wr_sI tgModel_exampleSize rfl h0 h1 (by decide) ne_va eq_va
theorem gModel_shown  : fR (mk (tx, pg, le, ln, tk, bd, vi, va, vl, vj, la, me)) aModel 10 12 = some (aModel_shown) := rd_fR tgModel rfl rfl
theorem nModel_shown  : aN (mk (tx, pg, le, ln, tk, bd, vi, va, vl, vj, la, me)) (aModel_shown) = some (I 240) := rd_aN tgModel_shown rfl (by decide)
theorem rModel_shown {i : Int} (h0 : 0 ≤ i) (h1 : i < 240) : aI 0 (mk (tx, pg, le, ln, tk, bd, vi, va, vl, vj, la, me)) (aModel_shown) (I i) = some (va 580 i.toNat) := rd_aI tgModel_shown rfl h0 h1 (by decide)
theorem wModel_shown {i : Int} (h0 : 0 ≤ i) (h1 : i < 240) {v : Int32} : sI 0 (mk (tx, pg, le, ln, tk, bd, vi, va, vl, vj, la, me)) (aModel_shown) (I i) v = some (mk (tx, pg, le, ln, tk, bd, vi, up va 580 (upd (va 580) i.toNat (v)), vl, vj, la, me)) := wr_sI tgModel_shown rfl h0 h1 (by decide) ne_va eq_va
theorem gModel_shownSize  : fR (mk (tx, pg, le, ln, tk, bd, vi, va, vl, vj, la, me)) aModel 10 13 = some (aModel_shownSize) := rd_fR tgModel rfl rfl
theorem nModel_shownSize  : aN (mk (tx, pg, le, ln, tk, bd, vi, va, vl, vj, la, me)) (aModel_shownSize) = some (I 12) := rd_aN tgModel_shownSize rfl (by decide)
theorem rModel_shownSize {i : Int} (h0 : 0 ≤ i) (h1 : i < 12) : aI 0 (mk (tx, pg, le, ln, tk, bd, vi, va, vl, vj, la, me)) (aModel_shownSize) (I i) = some (va 581 i.toNat) := rd_aI tgModel_shownSize rfl h0 h1 (by decide)
theorem wModel_shownSize {i : Int} (h0 : 0 ≤ i) (h1 : i < 12) {v : Int32} : sI 0 (mk (tx, pg, le, ln, tk, bd, vi, va, vl, vj, la, me)) (aModel_shownSize) (I i) v = some (mk (tx, pg, le, ln, tk, bd, vi, up va 581 (upd (va 581) i.toNat (v)), vl, vj, la, me)) := wr_sI tgModel_shownSize rfl h0 h1 (by decide) ne_va eq_va
theorem gModel_refusals  : fR (mk (tx, pg, le, ln, tk, bd, vi, va, vl, vj, la, me)) aModel 10 14 = some (aModel_refusals) := rd_fR tgModel rfl rfl
theorem nModel_refusals  : aN (mk (tx, pg, le, ln, tk, bd, vi, va, vl, vj, la, me)) (aModel_refusals) = some (I 3) := rd_aN tgModel_refusals rfl (by decide)
theorem rModel_refusals {i : Int} (h0 : 0 ≤ i) (h1 : i < 3) : aI 0 (mk (tx, pg, le, ln, tk, bd, vi, va, vl, vj, la, me)) (aModel_refusals) (I i) = some (va 582 i.toNat) := rd_aI tgModel_refusals rfl h0 h1 (by decide)
theorem wModel_refusals {i : Int} (h0 : 0 ≤ i) (h1 : i < 3) {v : Int32} : sI 0 (mk (tx, pg, le, ln, tk, bd, vi, va, vl, vj, la, me)) (aModel_refusals) (I i) v = some (mk (tx, pg, le, ln, tk, bd, vi, up va 582 (upd (va 582) i.toNat (v)), vl, vj, la, me)) := wr_sI tgModel_refusals rfl h0 h1 (by decide) ne_va eq_va
theorem gModel_refusal  : fR (mk (tx, pg, le, ln, tk, bd, vi, va, vl, vj, la, me)) aModel 10 15 = some (aModel_refusal) := rd_fR tgModel rfl rfl
theorem nModel_refusal  : aN (mk (tx, pg, le, ln, tk, bd, vi, va, vl, vj, la, me)) (aModel_refusal) = some (I 240) := rd_aN tgModel_refusal rfl (by decide)
theorem rModel_refusal {i : Int} (h0 : 0 ≤ i) (h1 : i < 240) : aI 0 (mk (tx, pg, le, ln, tk, bd, vi, va, vl, vj, la, me)) (aModel_refusal) (I i) = some (va 583 i.toNat) := rd_aI tgModel_refusal rfl h0 h1 (by decide)
theorem wModel_refusal {i : Int} (h0 : 0 ≤ i) (h1 : i < 240) {v : Int32} : sI 0 (mk (tx, pg, le, ln, tk, bd, vi, va, vl, vj, la, me)) (aModel_refusal) (I i) v = some (mk (tx, pg, le, ln, tk, bd, vi, up va 583 (upd (va 583) i.toNat (v)), vl, vj, la, me)) := wr_sI tgModel_refusal rfl h0 h1 (by decide) ne_va eq_va
theorem gModel_refusalSize  : fR (mk (tx, pg, le, ln, tk, bd, vi, va, vl, vj, la, me)) aModel 10 16 = some (aModel_refusalSize) := rd_fR tgModel rfl rfl
theorem nModel_refusalSize  : aN (mk (tx, pg, le, ln, tk, bd, vi, va, vl, vj, la, me)) (aModel_refusalSize) = some (I 12) := rd_aN tgModel_refusalSize rfl (by decide)
theorem rModel_refusalSize {i : Int} (h0 : 0 ≤ i) (h1 : i < 12) : aI 0 (mk (tx, pg, le, ln, tk, bd, vi, va, vl, vj, la, me)) (aModel_refusalSize) (I i) = some (va 584 i.toNat) := rd_aI tgModel_refusalSize rfl h0 h1 (by decide)
theorem wModel_refusalSize {i : Int} (h0 : 0 ≤ i) (h1 : i < 12) {v : Int32} : sI 0 (mk (tx, pg, le, ln, tk, bd, vi, va, vl, vj, la, me)) (aModel_refusalSize) (I i) v = some (mk (tx, pg, le, ln, tk, bd, vi, up va 584 (upd (va 584) i.toNat (v)), vl, vj, la, me)) := wr_sI tgModel_refusalSize rfl h0 h1 (by decide) ne_va eq_va
theorem gModel_refused  : fR (mk (tx, pg, le, ln, tk, bd, vi, va, vl, vj, la, me)) aModel 10 17 = some (aModel_refused) := rd_fR tgModel rfl rfl
theorem nModel_refused  : aN (mk (tx, pg, le, ln, tk, bd, vi, va, vl, vj, la, me)) (aModel_refused) = some (I 240) := rd_aN tgModel_refused rfl (by decide)
theorem rModel_refused {i : Int} (h0 : 0 ≤ i) (h1 : i < 240) : aI 0 (mk (tx, pg, le, ln, tk, bd, vi, va, vl, vj, la, me)) (aModel_refused) (I i) = some (va 585 i.toNat) := rd_aI tgModel_refused rfl h0 h1 (by decide)
theorem wModel_refused {i : Int} (h0 : 0 ≤ i) (h1 : i < 240) {v : Int32} : sI 0 (mk (tx, pg, le, ln, tk, bd, vi, va, vl, vj, la, me)) (aModel_refused) (I i) v = some (mk (tx, pg, le, ln, tk, bd, vi, up va 585 (upd (va 585) i.toNat (v)), vl, vj, la, me)) := wr_sI tgModel_refused rfl h0 h1 (by decide) ne_va eq_va
theorem gModel_refusedSize  : fR (mk (tx, pg, le, ln, tk, bd, vi, va, vl, vj, la, me)) aModel 10 18 = some (aModel_refusedSize) := rd_fR tgModel rfl rfl
theorem nModel_refusedSize  : aN (mk (tx, pg, le, ln, tk, bd, vi, va, vl, vj, la, me)) (aModel_refusedSize) = some (I 12) := rd_aN tgModel_refusedSize rfl (by decide)
theorem rModel_refusedSize {i : Int} (h0 : 0 ≤ i) (h1 : i < 12) : aI 0 (mk (tx, pg, le, ln, tk, bd, vi, va, vl, vj, la, me)) (aModel_refusedSize) (I i) = some (va 586 i.toNat) := rd_aI tgModel_refusedSize rfl h0 h1 (by decide)
theorem wModel_refusedSize {i : Int} (h0 : 0 ≤ i) (h1 : i < 12) {v : Int32} : sI 0 (mk (tx, pg, le, ln, tk, bd, vi, va, vl, vj, la, me)) (aModel_refusedSize) (I i) v = some (mk (tx, pg, le, ln, tk, bd, vi, up va 586 (upd (va 586) i.toNat (v)), vl, vj, la, me)) := wr_sI tgModel_refusedSize rfl h0 h1 (by decide) ne_va eq_va
theorem gModel_pinKind  : fR (mk (tx, pg, le, ln, tk, bd, vi, va, vl, vj, la, me)) aModel 10 19 = some (aModel_pinKind) := rd_fR tgModel rfl rfl
theorem nModel_pinKind  : aN (mk (tx, pg, le, ln, tk, bd, vi, va, vl, vj, la, me)) (aModel_pinKind) = some (I 12) := rd_aN tgModel_pinKind rfl (by decide)
theorem rModel_pinKind {i : Int} (h0 : 0 ≤ i) (h1 : i < 12) : aI 0 (mk (tx, pg, le, ln, tk, bd, vi, va, vl, vj, la, me)) (aModel_pinKind) (I i) = some (va 587 i.toNat) := rd_aI tgModel_pinKind rfl h0 h1 (by decide)
theorem wModel_pinKind {i : Int} (h0 : 0 ≤ i) (h1 : i < 12) {v : Int32} : sI 0 (mk (tx, pg, le, ln, tk, bd, vi, va, vl, vj, la, me)) (aModel_pinKind) (I i) v = some (mk (tx, pg, le, ln, tk, bd, vi, up va 587 (upd (va 587) i.toNat (v)), vl, vj, la, me)) := wr_sI tgModel_pinKind rfl h0 h1 (by decide) ne_va eq_va
theorem gModel_pinA  : fR (mk (tx, pg, le, ln, tk, bd, vi, va, vl, vj, la, me)) aModel 10 20 = some (aModel_pinA) := rd_fR tgModel rfl rfl
theorem nModel_pinA  : aN (mk (tx, pg, le, ln, tk, bd, vi, va, vl, vj, la, me)) (aModel_pinA) = some (I 12) := rd_aN tgModel_pinA rfl (by decide)
theorem rModel_pinA {i : Int} (h0 : 0 ≤ i) (h1 : i < 12) : aI 0 (mk (tx, pg, le, ln, tk, bd, vi, va, vl, vj, la, me)) (aModel_pinA) (I i) = some (va 588 i.toNat) := rd_aI tgModel_pinA rfl h0 h1 (by decide)
theorem wModel_pinA {i : Int} (h0 : 0 ≤ i) (h1 : i < 12) {v : Int32} : sI 0 (mk (tx, pg, le, ln, tk, bd, vi, va, vl, vj, la, me)) (aModel_pinA) (I i) v = some (mk (tx, pg, le, ln, tk, bd, vi, up va 588 (upd (va 588) i.toNat (v)), vl, vj, la, me)) := wr_sI tgModel_pinA rfl h0 h1 (by decide) ne_va eq_va
theorem gModel_pinB  : fR (mk (tx, pg, le, ln, tk, bd, vi, va, vl, vj, la, me)) aModel 10 21 = some (aModel_pinB) := rd_fR tgModel rfl rfl
theorem nModel_pinB  : aN (mk (tx, pg, le, ln, tk, bd, vi, va, vl, vj, la, me)) (aModel_pinB) = some (I 12) := rd_aN tgModel_pinB rfl (by decide)
theorem rModel_pinB {i : Int} (h0 : 0 ≤ i) (h1 : i < 12) : aI 0 (mk (tx, pg, le, ln, tk, bd, vi, va, vl, vj, la, me)) (aModel_pinB) (I i) = some (va 589 i.toNat) := rd_aI tgModel_pinB rfl h0 h1 (by decide)
theorem wModel_pinB {i : Int} (h0 : 0 ≤ i) (h1 : i < 12) {v : Int32} : sI 0 (mk (tx, pg, le, ln, tk, bd, vi, va, vl, vj, la, me)) (aModel_pinB) (I i) v = some (mk (tx, pg, le, ln, tk, bd, vi, up va 589 (upd (va 589) i.toNat (v)), vl, vj, la, me)) := wr_sI tgModel_pinB rfl h0 h1 (by decide) ne_va eq_va
theorem gModel_pinC  : fR (mk (tx, pg, le, ln, tk, bd, vi, va, vl, vj, la, me)) aModel 10 22 = some (aModel_pinC) := rd_fR tgModel rfl rfl
theorem nModel_pinC  : aN (mk (tx, pg, le, ln, tk, bd, vi, va, vl, vj, la, me)) (aModel_pinC) = some (I 12) := rd_aN tgModel_pinC rfl (by decide)
theorem rModel_pinC {i : Int} (h0 : 0 ≤ i) (h1 : i < 12) : aI 0 (mk (tx, pg, le, ln, tk, bd, vi, va, vl, vj, la, me)) (aModel_pinC) (I i) = some (va 590 i.toNat) := rd_aI tgModel_pinC rfl h0 h1 (by decide)
theorem wModel_pinC {i : Int} (h0 : 0 ≤ i) (h1 : i < 12) {v : Int32} : sI 0 (mk (tx, pg, le, ln, tk, bd, vi, va, vl, vj, la, me)) (aModel_pinC) (I i) v = some (mk (tx, pg, le, ln, tk, bd, vi, up va 590 (upd (va 590) i.toNat (v)), vl, vj, la, me)) := wr_sI tgModel_pinC rfl h0 h1 (by decide) ne_va eq_va
theorem gModel_pinSign  : fR (mk (tx, pg, le, ln, tk, bd, vi, va, vl, vj, la, me)) aModel 10 23 = some (aModel_pinSign) := rd_fR tgModel rfl rfl
theorem nModel_pinSign  : aN (mk (tx, pg, le, ln, tk, bd, vi, va, vl, vj, la, me)) (aModel_pinSign) = some (I 48) := rd_aN tgModel_pinSign rfl (by decide)
theorem rModel_pinSign {i : Int} (h0 : 0 ≤ i) (h1 : i < 48) : aI 0 (mk (tx, pg, le, ln, tk, bd, vi, va, vl, vj, la, me)) (aModel_pinSign) (I i) = some (va 591 i.toNat) := rd_aI tgModel_pinSign rfl h0 h1 (by decide)
theorem wModel_pinSign {i : Int} (h0 : 0 ≤ i) (h1 : i < 48) {v : Int32} : sI 0 (mk (tx, pg, le, ln, tk, bd, vi, va, vl, vj, la, me)) (aModel_pinSign) (I i) v = some (mk (tx, pg, le, ln, tk, bd, vi, up va 591 (upd (va 591) i.toNat (v)), vl, vj, la, me)) := wr_sI tgModel_pinSign rfl h0 h1 (by decide) ne_va eq_va
theorem gModel_hasLearnt  : fR (mk (tx, pg, le, ln, tk, bd, vi, va, vl, vj, la, me)) aModel 10 24 = some (aModel_hasLearnt) := rd_fR tgModel rfl rfl
theorem nModel_hasLearnt  : aN (mk (tx, pg, le, ln, tk, bd, vi, va, vl, vj, la, me)) (aModel_hasLearnt) = some (I 3) := rd_aN tgModel_hasLearnt rfl (by decide)
theorem rModel_hasLearnt {i : Int} (h0 : 0 ≤ i) (h1 : i < 3) : aI 3 (mk (tx, pg, le, ln, tk, bd, vi, va, vl, vj, la, me)) (aModel_hasLearnt) (I i) = some (va 592 i.toNat) := rd_aI tgModel_hasLearnt rfl h0 h1 (by decide)
theorem wModel_hasLearnt {i : Int} (h0 : 0 ≤ i) (h1 : i < 3) {v : Int32} : sI 3 (mk (tx, pg, le, ln, tk, bd, vi, va, vl, vj, la, me)) (aModel_hasLearnt) (I i) v = some (mk (tx, pg, le, ln, tk, bd, vi, up va 592 (upd (va 592) i.toNat (nrT 3 v)), vl, vj, la, me)) := wr_sI tgModel_hasLearnt rfl h0 h1 (by decide) ne_va eq_va
theorem gModel_conditionOf  : fR (mk (tx, pg, le, ln, tk, bd, vi, va, vl, vj, la, me)) aModel 10 25 = some (aModel_conditionOf) := rd_fR tgModel rfl rfl
theorem nModel_conditionOf  : aN (mk (tx, pg, le, ln, tk, bd, vi, va, vl, vj, la, me)) (aModel_conditionOf) = some (I 3) := rd_aN tgModel_conditionOf rfl (by decide)
theorem rModel_conditionOf {i : Int} (h0 : 0 ≤ i) (h1 : i < 3) : aI 0 (mk (tx, pg, le, ln, tk, bd, vi, va, vl, vj, la, me)) (aModel_conditionOf) (I i) = some (va 593 i.toNat) := rd_aI tgModel_conditionOf rfl h0 h1 (by decide)
theorem wModel_conditionOf {i : Int} (h0 : 0 ≤ i) (h1 : i < 3) {v : Int32} : sI 0 (mk (tx, pg, le, ln, tk, bd, vi, va, vl, vj, la, me)) (aModel_conditionOf) (I i) v = some (mk (tx, pg, le, ln, tk, bd, vi, up va 593 (upd (va 593) i.toNat (v)), vl, vj, la, me)) := wr_sI tgModel_conditionOf rfl h0 h1 (by decide) ne_va eq_va
theorem gModel_isStanding  : fR (mk (tx, pg, le, ln, tk, bd, vi, va, vl, vj, la, me)) aModel 10 26 = some (aModel_isStanding) := rd_fR tgModel rfl rfl
theorem nModel_isStanding  : aN (mk (tx, pg, le, ln, tk, bd, vi, va, vl, vj, la, me)) (aModel_isStanding) = some (I 3) := rd_aN tgModel_isStanding rfl (by decide)
theorem rModel_isStanding {i : Int} (h0 : 0 ≤ i) (h1 : i < 3) : aI 3 (mk (tx, pg, le, ln, tk, bd, vi, va, vl, vj, la, me)) (aModel_isStanding) (I i) = some (va 594 i.toNat) := rd_aI tgModel_isStanding rfl h0 h1 (by decide)
theorem wModel_isStanding {i : Int} (h0 : 0 ≤ i) (h1 : i < 3) {v : Int32} : sI 3 (mk (tx, pg, le, ln, tk, bd, vi, va, vl, vj, la, me)) (aModel_isStanding) (I i) v = some (mk (tx, pg, le, ln, tk, bd, vi, up va 594 (upd (va 594) i.toNat (nrT 3 v)), vl, vj, la, me)) := wr_sI tgModel_isStanding rfl h0 h1 (by decide) ne_va eq_va
theorem gModel_runs : fI (mk (tx, pg, le, ln, tk, bd, vi, va, vl, vj, la, me)) aModel 10 27 = some (vi 1027) := rd_fI tgModel rfl rfl
theorem pModel_runs {v : Int32} : pF (mk (tx, pg, le, ln, tk, bd, vi, va, vl, vj, la, me)) aModel 10 27 (.int v) = some (mk (tx, pg, le, ln, tk, bd, up vi 1027 v, va, vl, vj, la, me)) := wr_F tgModel rfl (Nat.le_of_ble_eq_true rfl) (ne_viModel (fun i hi => up_ne (by omega))) rfl
theorem gModel_isUndone  : fR (mk (tx, pg, le, ln, tk, bd, vi, va, vl, vj, la, me)) aModel 10 28 = some (aModel_isUndone) := rd_fR tgModel rfl rfl
theorem nModel_isUndone  : aN (mk (tx, pg, le, ln, tk, bd, vi, va, vl, vj, la, me)) (aModel_isUndone) = some (I 30) := rd_aN tgModel_isUndone rfl (by decide)
theorem rModel_isUndone {i : Int} (h0 : 0 ≤ i) (h1 : i < 30) : aI 3 (mk (tx, pg, le, ln, tk, bd, vi, va, vl, vj, la, me)) (aModel_isUndone) (I i) = some (va 595 i.toNat) := rd_aI tgModel_isUndone rfl h0 h1 (by decide)
theorem wModel_isUndone {i : Int} (h0 : 0 ≤ i) (h1 : i < 30) {v : Int32} : sI 3 (mk (tx, pg, le, ln, tk, bd, vi, va, vl, vj, la, me)) (aModel_isUndone) (I i) v = some (mk (tx, pg, le, ln, tk, bd, vi, up va 595 (upd (va 595) i.toNat (nrT 3 v)), vl, vj, la, me)) := wr_sI tgModel_isUndone rfl h0 h1 (by decide) ne_va eq_va
theorem gModel_runCondition  : fR (mk (tx, pg, le, ln, tk, bd, vi, va, vl, vj, la, me)) aModel 10 29 = some (aModel_runCondition) := rd_fR tgModel rfl rfl
theorem nModel_runCondition  : aN (mk (tx, pg, le, ln, tk, bd, vi, va, vl, vj, la, me)) (aModel_runCondition) = some (I 30) := rd_aN tgModel_runCondition rfl (by decide)
theorem rModel_runCondition {i : Int} (h0 : 0 ≤ i) (h1 : i < 30) : aI 0 (mk (tx, pg, le, ln, tk, bd, vi, va, vl, vj, la, me)) (aModel_runCondition) (I i) = some (va 596 i.toNat) := rd_aI tgModel_runCondition rfl h0 h1 (by decide)
theorem wModel_runCondition {i : Int} (h0 : 0 ≤ i) (h1 : i < 30) {v : Int32} : sI 0 (mk (tx, pg, le, ln, tk, bd, vi, va, vl, vj, la, me)) (aModel_runCondition) (I i) v = some (mk (tx, pg, le, ln, tk, bd, vi, up va 596 (upd (va 596) i.toNat (v)), vl, vj, la, me)) := wr_sI tgModel_runCondition rfl h0 h1 (by decide) ne_va eq_va
theorem gModel_askedLines : fI (mk (tx, pg, le, ln, tk, bd, vi, va, vl, vj, la, me)) aModel 10 30 = some (vi 1030) := rd_fI tgModel rfl rfl
theorem pModel_askedLines {v : Int32} : pF (mk (tx, pg, le, ln, tk, bd, vi, va, vl, vj, la, me)) aModel 10 30 (.int v) = some (mk (tx, pg, le, ln, tk, bd, up vi 1030 v, va, vl, vj, la, me)) := wr_F tgModel rfl (Nat.le_of_ble_eq_true rfl) (ne_viModel (fun i hi => up_ne (by omega))) rfl
theorem gModel_atoms  : fR (mk (tx, pg, le, ln, tk, bd, vi, va, vl, vj, la, me)) aModel 10 31 = some (aModel_atoms) := rd_fR tgModel rfl rfl
theorem nModel_atoms  : aN (mk (tx, pg, le, ln, tk, bd, vi, va, vl, vj, la, me)) (aModel_atoms) = some (I 87) := rd_aN tgModel_atoms rfl (by decide)
theorem rModel_atoms {i : Int} (h0 : 0 ≤ i) (h1 : i < 87) : aI 0 (mk (tx, pg, le, ln, tk, bd, vi, va, vl, vj, la, me)) (aModel_atoms) (I i) = some (va 597 i.toNat) := rd_aI tgModel_atoms rfl h0 h1 (by decide)
theorem wModel_atoms {i : Int} (h0 : 0 ≤ i) (h1 : i < 87) {v : Int32} : sI 0 (mk (tx, pg, le, ln, tk, bd, vi, va, vl, vj, la, me)) (aModel_atoms) (I i) v = some (mk (tx, pg, le, ln, tk, bd, vi, up va 597 (upd (va 597) i.toNat (v)), vl, vj, la, me)) := wr_sI tgModel_atoms rfl h0 h1 (by decide) ne_va eq_va
theorem gModel_weightOf  : fR (mk (tx, pg, le, ln, tk, bd, vi, va, vl, vj, la, me)) aModel 10 32 = some (aModel_weightOf) := rd_fR tgModel rfl rfl
theorem nModel_weightOf  : aN (mk (tx, pg, le, ln, tk, bd, vi, va, vl, vj, la, me)) (aModel_weightOf) = some (I 87) := rd_aN tgModel_weightOf rfl (by decide)
theorem rModel_weightOf {i : Int} (h0 : 0 ≤ i) (h1 : i < 87) : aI 0 (mk (tx, pg, le, ln, tk, bd, vi, va, vl, vj, la, me)) (aModel_weightOf) (I i) = some (va 598 i.toNat) := rd_aI tgModel_weightOf rfl h0 h1 (by decide)
theorem wModel_weightOf {i : Int} (h0 : 0 ≤ i) (h1 : i < 87) {v : Int32} : sI 0 (mk (tx, pg, le, ln, tk, bd, vi, va, vl, vj, la, me)) (aModel_weightOf) (I i) v = some (mk (tx, pg, le, ln, tk, bd, vi, up va 598 (upd (va 598) i.toNat (v)), vl, vj, la, me)) := wr_sI tgModel_weightOf rfl h0 h1 (by decide) ne_va eq_va
theorem gModel_kind  : fR (mk (tx, pg, le, ln, tk, bd, vi, va, vl, vj, la, me)) aModel 10 33 = some (aModel_kind) := rd_fR tgModel rfl rfl
theorem nModel_kind  : aN (mk (tx, pg, le, ln, tk, bd, vi, va, vl, vj, la, me)) (aModel_kind) = some (I 348) := rd_aN tgModel_kind rfl (by decide)
theorem rModel_kind {i : Int} (h0 : 0 ≤ i) (h1 : i < 348) : aI 0 (mk (tx, pg, le, ln, tk, bd, vi, va, vl, vj, la, me)) (aModel_kind) (I i) = some (va 599 i.toNat) := rd_aI tgModel_kind rfl h0 h1 (by decide)
theorem wModel_kind {i : Int} (h0 : 0 ≤ i) (h1 : i < 348) {v : Int32} : sI 0 (mk (tx, pg, le, ln, tk, bd, vi, va, vl, vj, la, me)) (aModel_kind) (I i) v = some (mk (tx, pg, le, ln, tk, bd, vi, up va 599 (upd (va 599) i.toNat (v)), vl, vj, la, me)) := wr_sI tgModel_kind rfl h0 h1 (by decide) ne_va eq_va
theorem gModel_a  : fR (mk (tx, pg, le, ln, tk, bd, vi, va, vl, vj, la, me)) aModel 10 34 = some (aModel_a) := rd_fR tgModel rfl rfl
theorem nModel_a  : aN (mk (tx, pg, le, ln, tk, bd, vi, va, vl, vj, la, me)) (aModel_a) = some (I 348) := rd_aN tgModel_a rfl (by decide)
theorem rModel_a {i : Int} (h0 : 0 ≤ i) (h1 : i < 348) : aI 0 (mk (tx, pg, le, ln, tk, bd, vi, va, vl, vj, la, me)) (aModel_a) (I i) = some (va 600 i.toNat) := rd_aI tgModel_a rfl h0 h1 (by decide)
theorem wModel_a {i : Int} (h0 : 0 ≤ i) (h1 : i < 348) {v : Int32} : sI 0 (mk (tx, pg, le, ln, tk, bd, vi, va, vl, vj, la, me)) (aModel_a) (I i) v = some (mk (tx, pg, le, ln, tk, bd, vi, up va 600 (upd (va 600) i.toNat (v)), vl, vj, la, me)) := wr_sI tgModel_a rfl h0 h1 (by decide) ne_va eq_va
theorem gModel_b  : fR (mk (tx, pg, le, ln, tk, bd, vi, va, vl, vj, la, me)) aModel 10 35 = some (aModel_b) := rd_fR tgModel rfl rfl
theorem nModel_b  : aN (mk (tx, pg, le, ln, tk, bd, vi, va, vl, vj, la, me)) (aModel_b) = some (I 348) := rd_aN tgModel_b rfl (by decide)
theorem rModel_b {i : Int} (h0 : 0 ≤ i) (h1 : i < 348) : aI 0 (mk (tx, pg, le, ln, tk, bd, vi, va, vl, vj, la, me)) (aModel_b) (I i) = some (va 601 i.toNat) := rd_aI tgModel_b rfl h0 h1 (by decide)
theorem wModel_b {i : Int} (h0 : 0 ≤ i) (h1 : i < 348) {v : Int32} : sI 0 (mk (tx, pg, le, ln, tk, bd, vi, va, vl, vj, la, me)) (aModel_b) (I i) v = some (mk (tx, pg, le, ln, tk, bd, vi, up va 601 (upd (va 601) i.toNat (v)), vl, vj, la, me)) := wr_sI tgModel_b rfl h0 h1 (by decide) ne_va eq_va
theorem gModel_c  : fR (mk (tx, pg, le, ln, tk, bd, vi, va, vl, vj, la, me)) aModel 10 36 = some (aModel_c) := rd_fR tgModel rfl rfl
theorem nModel_c  : aN (mk (tx, pg, le, ln, tk, bd, vi, va, vl, vj, la, me)) (aModel_c) = some (I 348) := rd_aN tgModel_c rfl (by decide)
theorem rModel_c {i : Int} (h0 : 0 ≤ i) (h1 : i < 348) : aI 0 (mk (tx, pg, le, ln, tk, bd, vi, va, vl, vj, la, me)) (aModel_c) (I i) = some (va 602 i.toNat) := rd_aI tgModel_c rfl h0 h1 (by decide)
theorem wModel_c {i : Int} (h0 : 0 ≤ i) (h1 : i < 348) {v : Int32} : sI 0 (mk (tx, pg, le, ln, tk, bd, vi, va, vl, vj, la, me)) (aModel_c) (I i) v = some (mk (tx, pg, le, ln, tk, bd, vi, up va 602 (upd (va 602) i.toNat (v)), vl, vj, la, me)) := wr_sI tgModel_c rfl h0 h1 (by decide) ne_va eq_va
theorem gModel_sign  : fR (mk (tx, pg, le, ln, tk, bd, vi, va, vl, vj, la, me)) aModel 10 37 = some (aModel_sign) := rd_fR tgModel rfl rfl
theorem nModel_sign  : aN (mk (tx, pg, le, ln, tk, bd, vi, va, vl, vj, la, me)) (aModel_sign) = some (I 1392) := rd_aN tgModel_sign rfl (by decide)
theorem rModel_sign {i : Int} (h0 : 0 ≤ i) (h1 : i < 1392) : aI 0 (mk (tx, pg, le, ln, tk, bd, vi, va, vl, vj, la, me)) (aModel_sign) (I i) = some (va 603 i.toNat) := rd_aI tgModel_sign rfl h0 h1 (by decide)
theorem wModel_sign {i : Int} (h0 : 0 ≤ i) (h1 : i < 1392) {v : Int32} : sI 0 (mk (tx, pg, le, ln, tk, bd, vi, va, vl, vj, la, me)) (aModel_sign) (I i) v = some (mk (tx, pg, le, ln, tk, bd, vi, up va 603 (upd (va 603) i.toNat (v)), vl, vj, la, me)) := wr_sI tgModel_sign rfl h0 h1 (by decide) ne_va eq_va
theorem gModel_counted : fI (mk (tx, pg, le, ln, tk, bd, vi, va, vl, vj, la, me)) aModel 10 38 = some (vi 1038) := rd_fI tgModel rfl rfl
theorem pModel_counted {v : Int32} : pF (mk (tx, pg, le, ln, tk, bd, vi, va, vl, vj, la, me)) aModel 10 38 (.int v) = some (mk (tx, pg, le, ln, tk, bd, up vi 1038 v, va, vl, vj, la, me)) := wr_F tgModel rfl (Nat.le_of_ble_eq_true rfl) (ne_viModel (fun i hi => up_ne (by omega))) rfl
theorem gModel_setState  : fR (mk (tx, pg, le, ln, tk, bd, vi, va, vl, vj, la, me)) aModel 10 39 = some (aModel_setState) := rd_fR tgModel rfl rfl
theorem nModel_setState  : aN (mk (tx, pg, le, ln, tk, bd, vi, va, vl, vj, la, me)) (aModel_setState) = some (I 16) := rd_aN tgModel_setState rfl (by decide)
theorem rModel_setState {i : Int} (h0 : 0 ≤ i) (h1 : i < 16) : aI 0 (mk (tx, pg, le, ln, tk, bd, vi, va, vl, vj, la, me)) (aModel_setState) (I i) = some (va 604 i.toNat) := rd_aI tgModel_setState rfl h0 h1 (by decide)
theorem wModel_setState {i : Int} (h0 : 0 ≤ i) (h1 : i < 16) {v : Int32} : sI 0 (mk (tx, pg, le, ln, tk, bd, vi, va, vl, vj, la, me)) (aModel_setState) (I i) v = some (mk (tx, pg, le, ln, tk, bd, vi, up va 604 (upd (va 604) i.toNat (v)), vl, vj, la, me)) := wr_sI tgModel_setState rfl h0 h1 (by decide) ne_va eq_va
theorem gModel_size : fI (mk (tx, pg, le, ln, tk, bd, vi, va, vl, vj, la, me)) aModel 10 40 = some (vi 1040) := rd_fI tgModel rfl rfl
theorem pModel_size {v : Int32} : pF (mk (tx, pg, le, ln, tk, bd, vi, va, vl, vj, la, me)) aModel 10 40 (.int v) = some (mk (tx, pg, le, ln, tk, bd, up vi 1040 v, va, vl, vj, la, me)) := wr_F tgModel rfl (Nat.le_of_ble_eq_true rfl) (ne_viModel (fun i hi => up_ne (by omega))) rfl
theorem gModel_text  : fR (mk (tx, pg, le, ln, tk, bd, vi, va, vl, vj, la, me)) aModel 10 41 = some (aModel_text) := rd_fR tgModel rfl rfl
theorem nModel_text  : aN (mk (tx, pg, le, ln, tk, bd, vi, va, vl, vj, la, me)) (aModel_text) = some (I 20) := rd_aN tgModel_text rfl (by decide)
theorem rModel_text {i : Int} (h0 : 0 ≤ i) (h1 : i < 20) : aI 0 (mk (tx, pg, le, ln, tk, bd, vi, va, vl, vj, la, me)) (aModel_text) (I i) = some (va 605 i.toNat) := rd_aI tgModel_text rfl h0 h1 (by decide)
theorem wModel_text {i : Int} (h0 : 0 ≤ i) (h1 : i < 20) {v : Int32} : sI 0 (mk (tx, pg, le, ln, tk, bd, vi, va, vl, vj, la, me)) (aModel_text) (I i) v = some (mk (tx, pg, le, ln, tk, bd, vi, up va 605 (upd (va 605) i.toNat (v)), vl, vj, la, me)) := wr_sI tgModel_text rfl h0 h1 (by decide) ne_va eq_va
theorem gModel_runsOf  : fR (mk (tx, pg, le, ln, tk, bd, vi, va, vl, vj, la, me)) aModel 10 42 = some (aModel_runsOf) := rd_fR tgModel rfl rfl
theorem nModel_runsOf  : aN (mk (tx, pg, le, ln, tk, bd, vi, va, vl, vj, la, me)) (aModel_runsOf) = some (I 4) := rd_aN tgModel_runsOf rfl (by decide)
theorem rModel_runsOf {i : Int} (h0 : 0 ≤ i) (h1 : i < 4) : aI 0 (mk (tx, pg, le, ln, tk, bd, vi, va, vl, vj, la, me)) (aModel_runsOf) (I i) = some (va 606 i.toNat) := rd_aI tgModel_runsOf rfl h0 h1 (by decide)
theorem wModel_runsOf {i : Int} (h0 : 0 ≤ i) (h1 : i < 4) {v : Int32} : sI 0 (mk (tx, pg, le, ln, tk, bd, vi, va, vl, vj, la, me)) (aModel_runsOf) (I i) v = some (mk (tx, pg, le, ln, tk, bd, vi, up va 606 (upd (va 606) i.toNat (v)), vl, vj, la, me)) := wr_sI tgModel_runsOf rfl h0 h1 (by decide) ne_va eq_va
theorem gModel_runAt  : fR (mk (tx, pg, le, ln, tk, bd, vi, va, vl, vj, la, me)) aModel 10 43 = some (aModel_runAt) := rd_fR tgModel rfl rfl
theorem nModel_runAt  : aN (mk (tx, pg, le, ln, tk, bd, vi, va, vl, vj, la, me)) (aModel_runAt) = some (I 44) := rd_aN tgModel_runAt rfl (by decide)
theorem rModel_runAt {i : Int} (h0 : 0 ≤ i) (h1 : i < 44) : aI 0 (mk (tx, pg, le, ln, tk, bd, vi, va, vl, vj, la, me)) (aModel_runAt) (I i) = some (va 607 i.toNat) := rd_aI tgModel_runAt rfl h0 h1 (by decide)
theorem wModel_runAt {i : Int} (h0 : 0 ≤ i) (h1 : i < 44) {v : Int32} : sI 0 (mk (tx, pg, le, ln, tk, bd, vi, va, vl, vj, la, me)) (aModel_runAt) (I i) v = some (mk (tx, pg, le, ln, tk, bd, vi, up va 607 (upd (va 607) i.toNat (v)), vl, vj, la, me)) := wr_sI tgModel_runAt rfl h0 h1 (by decide) ne_va eq_va
theorem gModel_runEnd  : fR (mk (tx, pg, le, ln, tk, bd, vi, va, vl, vj, la, me)) aModel 10 44 = some (aModel_runEnd) := rd_fR tgModel rfl rfl
theorem nModel_runEnd  : aN (mk (tx, pg, le, ln, tk, bd, vi, va, vl, vj, la, me)) (aModel_runEnd) = some (I 44) := rd_aN tgModel_runEnd rfl (by decide)
theorem rModel_runEnd {i : Int} (h0 : 0 ≤ i) (h1 : i < 44) : aI 0 (mk (tx, pg, le, ln, tk, bd, vi, va, vl, vj, la, me)) (aModel_runEnd) (I i) = some (va 608 i.toNat) := rd_aI tgModel_runEnd rfl h0 h1 (by decide)
theorem wModel_runEnd {i : Int} (h0 : 0 ≤ i) (h1 : i < 44) {v : Int32} : sI 0 (mk (tx, pg, le, ln, tk, bd, vi, va, vl, vj, la, me)) (aModel_runEnd) (I i) v = some (mk (tx, pg, le, ln, tk, bd, vi, up va 608 (upd (va 608) i.toNat (v)), vl, vj, la, me)) := wr_sI tgModel_runEnd rfl h0 h1 (by decide) ne_va eq_va
theorem gModel_made : fI (mk (tx, pg, le, ln, tk, bd, vi, va, vl, vj, la, me)) aModel 10 45 = some (vi 1045) := rd_fI tgModel rfl rfl
theorem pModel_made {v : Int32} : pF (mk (tx, pg, le, ln, tk, bd, vi, va, vl, vj, la, me)) aModel 10 45 (.int v) = some (mk (tx, pg, le, ln, tk, bd, up vi 1045 v, va, vl, vj, la, me)) := wr_F tgModel rfl (Nat.le_of_ble_eq_true rfl) (ne_viModel (fun i hi => up_ne (by omega))) rfl
theorem gModel_making  : fR (mk (tx, pg, le, ln, tk, bd, vi, va, vl, vj, la, me)) aModel 10 46 = some (aModel_making) := rd_fR tgModel rfl rfl
theorem nModel_making  : aN (mk (tx, pg, le, ln, tk, bd, vi, va, vl, vj, la, me)) (aModel_making) = some (I 140) := rd_aN tgModel_making rfl (by decide)
theorem rModel_making {i : Int} (h0 : 0 ≤ i) (h1 : i < 140) : aI 0 (mk (tx, pg, le, ln, tk, bd, vi, va, vl, vj, la, me)) (aModel_making) (I i) = some (va 609 i.toNat) := rd_aI tgModel_making rfl h0 h1 (by decide)
theorem wModel_making {i : Int} (h0 : 0 ≤ i) (h1 : i < 140) {v : Int32} : sI 0 (mk (tx, pg, le, ln, tk, bd, vi, va, vl, vj, la, me)) (aModel_making) (I i) v = some (mk (tx, pg, le, ln, tk, bd, vi, up va 609 (upd (va 609) i.toNat (v)), vl, vj, la, me)) := wr_sI tgModel_making rfl h0 h1 (by decide) ne_va eq_va
theorem gModel_consts : fI (mk (tx, pg, le, ln, tk, bd, vi, va, vl, vj, la, me)) aModel 10 47 = some (vi 1047) := rd_fI tgModel rfl rfl
theorem pModel_consts {v : Int32} : pF (mk (tx, pg, le, ln, tk, bd, vi, va, vl, vj, la, me)) aModel 10 47 (.int v) = some (mk (tx, pg, le, ln, tk, bd, up vi 1047 v, va, vl, vj, la, me)) := wr_F tgModel rfl (Nat.le_of_ble_eq_true rfl) (ne_viModel (fun i hi => up_ne (by omega))) rfl
theorem gModel_constSign  : fR (mk (tx, pg, le, ln, tk, bd, vi, va, vl, vj, la, me)) aModel 10 48 = some (aModel_constSign) := rd_fR tgModel rfl rfl
theorem nModel_constSign  : aN (mk (tx, pg, le, ln, tk, bd, vi, va, vl, vj, la, me)) (aModel_constSign) = some (I 1200) := rd_aN tgModel_constSign rfl (by decide)
theorem rModel_constSign {i : Int} (h0 : 0 ≤ i) (h1 : i < 1200) : aI 0 (mk (tx, pg, le, ln, tk, bd, vi, va, vl, vj, la, me)) (aModel_constSign) (I i) = some (va 610 i.toNat) := rd_aI tgModel_constSign rfl h0 h1 (by decide)
theorem wModel_constSign {i : Int} (h0 : 0 ≤ i) (h1 : i < 1200) {v : Int32} : sI 0 (mk (tx, pg, le, ln, tk, bd, vi, va, vl, vj, la, me)) (aModel_constSign) (I i) v = some (mk (tx, pg, le, ln, tk, bd, vi, up va 610 (upd (va 610) i.toNat (v)), vl, vj, la, me)) := wr_sI tgModel_constSign rfl h0 h1 (by decide) ne_va eq_va
theorem gModel_constSize  : fR (mk (tx, pg, le, ln, tk, bd, vi, va, vl, vj, la, me)) aModel 10 49 = some (aModel_constSize) := rd_fR tgModel rfl rfl
theorem nModel_constSize  : aN (mk (tx, pg, le, ln, tk, bd, vi, va, vl, vj, la, me)) (aModel_constSize) = some (I 300) := rd_aN tgModel_constSize rfl (by decide)
theorem rModel_constSize {i : Int} (h0 : 0 ≤ i) (h1 : i < 300) : aI 0 (mk (tx, pg, le, ln, tk, bd, vi, va, vl, vj, la, me)) (aModel_constSize) (I i) = some (va 611 i.toNat) := rd_aI tgModel_constSize rfl h0 h1 (by decide)
theorem wModel_constSize {i : Int} (h0 : 0 ≤ i) (h1 : i < 300) {v : Int32} : sI 0 (mk (tx, pg, le, ln, tk, bd, vi, va, vl, vj, la, me)) (aModel_constSize) (I i) v = some (mk (tx, pg, le, ln, tk, bd, vi, up va 611 (upd (va 611) i.toNat (v)), vl, vj, la, me)) := wr_sI tgModel_constSize rfl h0 h1 (by decide) ne_va eq_va
theorem gModel_all : fI (mk (tx, pg, le, ln, tk, bd, vi, va, vl, vj, la, me)) aModel 10 50 = some (vi 1050) := rd_fI tgModel rfl rfl
theorem pModel_all {v : Int32} : pF (mk (tx, pg, le, ln, tk, bd, vi, va, vl, vj, la, me)) aModel 10 50 (.int v) = some (mk (tx, pg, le, ln, tk, bd, up vi 1050 v, va, vl, vj, la, me)) := wr_F tgModel rfl (Nat.le_of_ble_eq_true rfl) (ne_viModel (fun i hi => up_ne (by omega))) rfl
theorem gModel_match_  : fR (mk (tx, pg, le, ln, tk, bd, vi, va, vl, vj, la, me)) aModel 10 51 = some (aModel_match_) := rd_fR tgModel rfl rfl
theorem nModel_match_  : aN (mk (tx, pg, le, ln, tk, bd, vi, va, vl, vj, la, me)) (aModel_match_) = some (I 16000) := rd_aN tgModel_match_ rfl (by decide)
theorem rModel_match_ {i : Int} (h0 : 0 ≤ i) (h1 : i < 16000) : aI 0 (mk (tx, pg, le, ln, tk, bd, vi, va, vl, vj, la, me)) (aModel_match_) (I i) = some (va 612 i.toNat) := rd_aI tgModel_match_ rfl h0 h1 (by decide)
theorem wModel_match_ {i : Int} (h0 : 0 ≤ i) (h1 : i < 16000) {v : Int32} : sI 0 (mk (tx, pg, le, ln, tk, bd, vi, va, vl, vj, la, me)) (aModel_match_) (I i) v = some (mk (tx, pg, le, ln, tk, bd, vi, up va 612 (upd (va 612) i.toNat (v)), vl, vj, la, me)) := wr_sI tgModel_match_ rfl h0 h1 (by decide) ne_va eq_va
theorem gModel_length  : fR (mk (tx, pg, le, ln, tk, bd, vi, va, vl, vj, la, me)) aModel 10 52 = some (aModel_length) := rd_fR tgModel rfl rfl
theorem nModel_length  : aN (mk (tx, pg, le, ln, tk, bd, vi, va, vl, vj, la, me)) (aModel_length) = some (I 16000) := rd_aN tgModel_length rfl (by decide)
theorem rModel_length {i : Int} (h0 : 0 ≤ i) (h1 : i < 16000) : aI 0 (mk (tx, pg, le, ln, tk, bd, vi, va, vl, vj, la, me)) (aModel_length) (I i) = some (va 613 i.toNat) := rd_aI tgModel_length rfl h0 h1 (by decide)
theorem wModel_length {i : Int} (h0 : 0 ≤ i) (h1 : i < 16000) {v : Int32} : sI 0 (mk (tx, pg, le, ln, tk, bd, vi, va, vl, vj, la, me)) (aModel_length) (I i) v = some (mk (tx, pg, le, ln, tk, bd, vi, up va 613 (upd (va 613) i.toNat (v)), vl, vj, la, me)) := wr_sI tgModel_length rfl h0 h1 (by decide) ne_va eq_va
theorem gModel_weight  : fR (mk (tx, pg, le, ln, tk, bd, vi, va, vl, vj, la, me)) aModel 10 53 = some (aModel_weight) := rd_fR tgModel rfl rfl
theorem nModel_weight  : aN (mk (tx, pg, le, ln, tk, bd, vi, va, vl, vj, la, me)) (aModel_weight) = some (I 4000) := rd_aN tgModel_weight rfl (by decide)
theorem rModel_weight {i : Int} (h0 : 0 ≤ i) (h1 : i < 4000) : aI 0 (mk (tx, pg, le, ln, tk, bd, vi, va, vl, vj, la, me)) (aModel_weight) (I i) = some (va 614 i.toNat) := rd_aI tgModel_weight rfl h0 h1 (by decide)
theorem wModel_weight {i : Int} (h0 : 0 ≤ i) (h1 : i < 4000) {v : Int32} : sI 0 (mk (tx, pg, le, ln, tk, bd, vi, va, vl, vj, la, me)) (aModel_weight) (I i) v = some (mk (tx, pg, le, ln, tk, bd, vi, up va 614 (upd (va 614) i.toNat (v)), vl, vj, la, me)) := wr_sI tgModel_weight rfl h0 h1 (by decide) ne_va eq_va
theorem gModel_valids : fI (mk (tx, pg, le, ln, tk, bd, vi, va, vl, vj, la, me)) aModel 10 54 = some (vi 1054) := rd_fI tgModel rfl rfl
theorem pModel_valids {v : Int32} : pF (mk (tx, pg, le, ln, tk, bd, vi, va, vl, vj, la, me)) aModel 10 54 (.int v) = some (mk (tx, pg, le, ln, tk, bd, up vi 1054 v, va, vl, vj, la, me)) := wr_F tgModel rfl (Nat.le_of_ble_eq_true rfl) (ne_viModel (fun i hi => up_ne (by omega))) rfl
theorem gModel_valid  : fR (mk (tx, pg, le, ln, tk, bd, vi, va, vl, vj, la, me)) aModel 10 55 = some (aModel_valid) := rd_fR tgModel rfl rfl
theorem nModel_valid  : aN (mk (tx, pg, le, ln, tk, bd, vi, va, vl, vj, la, me)) (aModel_valid) = some (I 4000) := rd_aN tgModel_valid rfl (by decide)
theorem rModel_valid {i : Int} (h0 : 0 ≤ i) (h1 : i < 4000) : aI 0 (mk (tx, pg, le, ln, tk, bd, vi, va, vl, vj, la, me)) (aModel_valid) (I i) = some (va 615 i.toNat) := rd_aI tgModel_valid rfl h0 h1 (by decide)
theorem wModel_valid {i : Int} (h0 : 0 ≤ i) (h1 : i < 4000) {v : Int32} : sI 0 (mk (tx, pg, le, ln, tk, bd, vi, va, vl, vj, la, me)) (aModel_valid) (I i) v = some (mk (tx, pg, le, ln, tk, bd, vi, up va 615 (upd (va 615) i.toNat (v)), vl, vj, la, me)) := wr_sI tgModel_valid rfl h0 h1 (by decide) ne_va eq_va
theorem gModel_task : fI (mk (tx, pg, le, ln, tk, bd, vi, va, vl, vj, la, me)) aModel 10 56 = some (vi 1056) := rd_fI tgModel rfl rfl
theorem pModel_task {v : Int32} : pF (mk (tx, pg, le, ln, tk, bd, vi, va, vl, vj, la, me)) aModel 10 56 (.int v) = some (mk (tx, pg, le, ln, tk, bd, up vi 1056 v, va, vl, vj, la, me)) := wr_F tgModel rfl (Nat.le_of_ble_eq_true rfl) (ne_viModel (fun i hi => up_ne (by omega))) rfl
theorem gModel_many : fI (mk (tx, pg, le, ln, tk, bd, vi, va, vl, vj, la, me)) aModel 10 57 = some (vi 1057) := rd_fI tgModel rfl rfl
theorem pModel_many {v : Int32} : pF (mk (tx, pg, le, ln, tk, bd, vi, va, vl, vj, la, me)) aModel 10 57 (.int v) = some (mk (tx, pg, le, ln, tk, bd, up vi 1057 v, va, vl, vj, la, me)) := wr_F tgModel rfl (Nat.le_of_ble_eq_true rfl) (ne_viModel (fun i hi => up_ne (by omega))) rfl
theorem gModel_in_  : fR (mk (tx, pg, le, ln, tk, bd, vi, va, vl, vj, la, me)) aModel 10 58 = some (aModel_in_) := rd_fR tgModel rfl rfl
theorem nModel_in_  : aN (mk (tx, pg, le, ln, tk, bd, vi, va, vl, vj, la, me)) (aModel_in_) = some (I 4) := rd_aN tgModel_in_ rfl (by decide)
theorem rModel_in_ {i : Int} (h0 : 0 ≤ i) (h1 : i < 4) : aI 0 (mk (tx, pg, le, ln, tk, bd, vi, va, vl, vj, la, me)) (aModel_in_) (I i) = some (va 616 i.toNat) := rd_aI tgModel_in_ rfl h0 h1 (by decide)
theorem wModel_in_ {i : Int} (h0 : 0 ≤ i) (h1 : i < 4) {v : Int32} : sI 0 (mk (tx, pg, le, ln, tk, bd, vi, va, vl, vj, la, me)) (aModel_in_) (I i) v = some (mk (tx, pg, le, ln, tk, bd, vi, up va 616 (upd (va 616) i.toNat (v)), vl, vj, la, me)) := wr_sI tgModel_in_ rfl h0 h1 (by decide) ne_va eq_va
theorem gModel_stride  : fR (mk (tx, pg, le, ln, tk, bd, vi, va, vl, vj, la, me)) aModel 10 59 = some (aModel_stride) := rd_fR tgModel rfl rfl
theorem nModel_stride  : aN (mk (tx, pg, le, ln, tk, bd, vi, va, vl, vj, la, me)) (aModel_stride) = some (I 4) := rd_aN tgModel_stride rfl (by decide)
theorem rModel_stride {i : Int} (h0 : 0 ≤ i) (h1 : i < 4) : aI 0 (mk (tx, pg, le, ln, tk, bd, vi, va, vl, vj, la, me)) (aModel_stride) (I i) = some (va 617 i.toNat) := rd_aI tgModel_stride rfl h0 h1 (by decide)
theorem wModel_stride {i : Int} (h0 : 0 ≤ i) (h1 : i < 4) {v : Int32} : sI 0 (mk (tx, pg, le, ln, tk, bd, vi, va, vl, vj, la, me)) (aModel_stride) (I i) v = some (mk (tx, pg, le, ln, tk, bd, vi, up va 617 (upd (va 617) i.toNat (v)), vl, vj, la, me)) := wr_sI tgModel_stride rfl h0 h1 (by decide) ne_va eq_va
theorem gModel_radix  : fR (mk (tx, pg, le, ln, tk, bd, vi, va, vl, vj, la, me)) aModel 10 60 = some (aModel_radix) := rd_fR tgModel rfl rfl
theorem nModel_radix  : aN (mk (tx, pg, le, ln, tk, bd, vi, va, vl, vj, la, me)) (aModel_radix) = some (I 4) := rd_aN tgModel_radix rfl (by decide)
theorem rModel_radix {i : Int} (h0 : 0 ≤ i) (h1 : i < 4) : aI 0 (mk (tx, pg, le, ln, tk, bd, vi, va, vl, vj, la, me)) (aModel_radix) (I i) = some (va 618 i.toNat) := rd_aI tgModel_radix rfl h0 h1 (by decide)
theorem wModel_radix {i : Int} (h0 : 0 ≤ i) (h1 : i < 4) {v : Int32} : sI 0 (mk (tx, pg, le, ln, tk, bd, vi, va, vl, vj, la, me)) (aModel_radix) (I i) v = some (mk (tx, pg, le, ln, tk, bd, vi, up va 618 (upd (va 618) i.toNat (v)), vl, vj, la, me)) := wr_sI tgModel_radix rfl h0 h1 (by decide) ne_va eq_va
theorem gModel_codes : fI (mk (tx, pg, le, ln, tk, bd, vi, va, vl, vj, la, me)) aModel 10 61 = some (vi 1061) := rd_fI tgModel rfl rfl
theorem pModel_codes {v : Int32} : pF (mk (tx, pg, le, ln, tk, bd, vi, va, vl, vj, la, me)) aModel 10 61 (.int v) = some (mk (tx, pg, le, ln, tk, bd, up vi 1061 v, va, vl, vj, la, me)) := wr_F tgModel rfl (Nat.le_of_ble_eq_true rfl) (ne_viModel (fun i hi => up_ne (by omega))) rfl
theorem gModel_one  : fR (mk (tx, pg, le, ln, tk, bd, vi, va, vl, vj, la, me)) aModel 10 62 = some (aModel_one) := rd_fR tgModel rfl rfl
theorem nModel_one  : aN (mk (tx, pg, le, ln, tk, bd, vi, va, vl, vj, la, me)) (aModel_one) = some (I 194481) := rd_aN tgModel_one rfl (by decide)
theorem rModel_one {i : Int} (h0 : 0 ≤ i) (h1 : i < 194481) : aI 0 (mk (tx, pg, le, ln, tk, bd, vi, va, vl, vj, la, me)) (aModel_one) (I i) = some (va 619 i.toNat) := rd_aI tgModel_one rfl h0 h1 (by decide)
theorem wModel_one {i : Int} (h0 : 0 ≤ i) (h1 : i < 194481) {v : Int32} : sI 0 (mk (tx, pg, le, ln, tk, bd, vi, va, vl, vj, la, me)) (aModel_one) (I i) v = some (mk (tx, pg, le, ln, tk, bd, vi, up va 619 (upd (va 619) i.toNat (v)), vl, vj, la, me)) := wr_sI tgModel_one rfl h0 h1 (by decide) ne_va eq_va
theorem gModel_two  : fR (mk (tx, pg, le, ln, tk, bd, vi, va, vl, vj, la, me)) aModel 10 63 = some (aModel_two) := rd_fR tgModel rfl rfl
theorem nModel_two  : aN (mk (tx, pg, le, ln, tk, bd, vi, va, vl, vj, la, me)) (aModel_two) = some (I 194481) := rd_aN tgModel_two rfl (by decide)
theorem rModel_two {i : Int} (h0 : 0 ≤ i) (h1 : i < 194481) : aI 0 (mk (tx, pg, le, ln, tk, bd, vi, va, vl, vj, la, me)) (aModel_two) (I i) = some (va 620 i.toNat) := rd_aI tgModel_two rfl h0 h1 (by decide)
theorem wModel_two {i : Int} (h0 : 0 ≤ i) (h1 : i < 194481) {v : Int32} : sI 0 (mk (tx, pg, le, ln, tk, bd, vi, va, vl, vj, la, me)) (aModel_two) (I i) v = some (mk (tx, pg, le, ln, tk, bd, vi, up va 620 (upd (va 620) i.toNat (v)), vl, vj, la, me)) := wr_sI tgModel_two rfl h0 h1 (by decide) ne_va eq_va
theorem gModel_mark  : fR (mk (tx, pg, le, ln, tk, bd, vi, va, vl, vj, la, me)) aModel 10 64 = some (aModel_mark) := rd_fR tgModel rfl rfl
theorem nModel_mark  : aN (mk (tx, pg, le, ln, tk, bd, vi, va, vl, vj, la, me)) (aModel_mark) = some (I 194481) := rd_aN tgModel_mark rfl (by decide)
theorem rModel_mark {i : Int} (h0 : 0 ≤ i) (h1 : i < 194481) : aI 0 (mk (tx, pg, le, ln, tk, bd, vi, va, vl, vj, la, me)) (aModel_mark) (I i) = some (va 621 i.toNat) := rd_aI tgModel_mark rfl h0 h1 (by decide)
theorem wModel_mark {i : Int} (h0 : 0 ≤ i) (h1 : i < 194481) {v : Int32} : sI 0 (mk (tx, pg, le, ln, tk, bd, vi, va, vl, vj, la, me)) (aModel_mark) (I i) v = some (mk (tx, pg, le, ln, tk, bd, vi, up va 621 (upd (va 621) i.toNat (v)), vl, vj, la, me)) := wr_sI tgModel_mark rfl h0 h1 (by decide) ne_va eq_va
theorem gModel_threes : fI (mk (tx, pg, le, ln, tk, bd, vi, va, vl, vj, la, me)) aModel 10 65 = some (vi 1065) := rd_fI tgModel rfl rfl
theorem pModel_threes {v : Int32} : pF (mk (tx, pg, le, ln, tk, bd, vi, va, vl, vj, la, me)) aModel 10 65 (.int v) = some (mk (tx, pg, le, ln, tk, bd, up vi 1065 v, va, vl, vj, la, me)) := wr_F tgModel rfl (Nat.le_of_ble_eq_true rfl) (ne_viModel (fun i hi => up_ne (by omega))) rfl
theorem gModel_three  : fR (mk (tx, pg, le, ln, tk, bd, vi, va, vl, vj, la, me)) aModel 10 66 = some (aModel_three) := rd_fR tgModel rfl rfl
theorem nModel_three  : aN (mk (tx, pg, le, ln, tk, bd, vi, va, vl, vj, la, me)) (aModel_three) = some (I 4000) := rd_aN tgModel_three rfl (by decide)
theorem rModel_three {i : Int} (h0 : 0 ≤ i) (h1 : i < 4000) : aJ (mk (tx, pg, le, ln, tk, bd, vi, va, vl, vj, la, me)) (aModel_three) (I i) = some (vl 622 i.toNat) := rd_aJ tgModel_three rfl h0 h1 (by decide)
theorem wModel_three {i : Int} (h0 : 0 ≤ i) (h1 : i < 4000) {v : Int64} : sJ (mk (tx, pg, le, ln, tk, bd, vi, va, vl, vj, la, me)) (aModel_three) (I i) v = some (mk (tx, pg, le, ln, tk, bd, vi, va, up vl 622 (vp_updL (vl 622) i.toNat v), vj, la, me)) := wr_sJ tgModel_three rfl h0 h1 (by decide) ne_vl eq_vl
theorem gModel_pinned  : fR (mk (tx, pg, le, ln, tk, bd, vi, va, vl, vj, la, me)) aModel 10 67 = some (aModel_pinned) := rd_fR tgModel rfl rfl
theorem nModel_pinned  : aN (mk (tx, pg, le, ln, tk, bd, vi, va, vl, vj, la, me)) (aModel_pinned) = some (I 4) := rd_aN tgModel_pinned rfl (by decide)
theorem rModel_pinned {i : Int} (h0 : 0 ≤ i) (h1 : i < 4) : aI 0 (mk (tx, pg, le, ln, tk, bd, vi, va, vl, vj, la, me)) (aModel_pinned) (I i) = some (va 623 i.toNat) := rd_aI tgModel_pinned rfl h0 h1 (by decide)
theorem wModel_pinned {i : Int} (h0 : 0 ≤ i) (h1 : i < 4) {v : Int32} : sI 0 (mk (tx, pg, le, ln, tk, bd, vi, va, vl, vj, la, me)) (aModel_pinned) (I i) v = some (mk (tx, pg, le, ln, tk, bd, vi, up va 623 (upd (va 623) i.toNat (v)), vl, vj, la, me)) := wr_sI tgModel_pinned rfl h0 h1 (by decide) ne_va eq_va
theorem gModel_at_  : fR (mk (tx, pg, le, ln, tk, bd, vi, va, vl, vj, la, me)) aModel 10 68 = some (aModel_at_) := rd_fR tgModel rfl rfl
theorem nModel_at_  : aN (mk (tx, pg, le, ln, tk, bd, vi, va, vl, vj, la, me)) (aModel_at_) = some (I 20) := rd_aN tgModel_at_ rfl (by decide)
theorem rModel_at_ {i : Int} (h0 : 0 ≤ i) (h1 : i < 20) : aI 0 (mk (tx, pg, le, ln, tk, bd, vi, va, vl, vj, la, me)) (aModel_at_) (I i) = some (va 624 i.toNat) := rd_aI tgModel_at_ rfl h0 h1 (by decide)
theorem wModel_at_ {i : Int} (h0 : 0 ≤ i) (h1 : i < 20) {v : Int32} : sI 0 (mk (tx, pg, le, ln, tk, bd, vi, va, vl, vj, la, me)) (aModel_at_) (I i) v = some (mk (tx, pg, le, ln, tk, bd, vi, up va 624 (upd (va 624) i.toNat (v)), vl, vj, la, me)) := wr_sI tgModel_at_ rfl h0 h1 (by decide) ne_va eq_va
theorem gModel_chosen  : fR (mk (tx, pg, le, ln, tk, bd, vi, va, vl, vj, la, me)) aModel 10 69 = some (aModel_chosen) := rd_fR tgModel rfl rfl
theorem nModel_chosen  : aN (mk (tx, pg, le, ln, tk, bd, vi, va, vl, vj, la, me)) (aModel_chosen) = some (I 4) := rd_aN tgModel_chosen rfl (by decide)
theorem rModel_chosen {i : Int} (h0 : 0 ≤ i) (h1 : i < 4) : aI 0 (mk (tx, pg, le, ln, tk, bd, vi, va, vl, vj, la, me)) (aModel_chosen) (I i) = some (va 625 i.toNat) := rd_aI tgModel_chosen rfl h0 h1 (by decide)
theorem wModel_chosen {i : Int} (h0 : 0 ≤ i) (h1 : i < 4) {v : Int32} : sI 0 (mk (tx, pg, le, ln, tk, bd, vi, va, vl, vj, la, me)) (aModel_chosen) (I i) v = some (mk (tx, pg, le, ln, tk, bd, vi, up va 625 (upd (va 625) i.toNat (v)), vl, vj, la, me)) := wr_sI tgModel_chosen rfl h0 h1 (by decide) ne_va eq_va
theorem gModel_left  : fR (mk (tx, pg, le, ln, tk, bd, vi, va, vl, vj, la, me)) aModel 10 70 = some (aModel_left) := rd_fR tgModel rfl rfl
theorem nModel_left  : aN (mk (tx, pg, le, ln, tk, bd, vi, va, vl, vj, la, me)) (aModel_left) = some (I 5) := rd_aN tgModel_left rfl (by decide)
theorem rModel_left {i : Int} (h0 : 0 ≤ i) (h1 : i < 5) : aI 0 (mk (tx, pg, le, ln, tk, bd, vi, va, vl, vj, la, me)) (aModel_left) (I i) = some (va 626 i.toNat) := rd_aI tgModel_left rfl h0 h1 (by decide)
theorem wModel_left {i : Int} (h0 : 0 ≤ i) (h1 : i < 5) {v : Int32} : sI 0 (mk (tx, pg, le, ln, tk, bd, vi, va, vl, vj, la, me)) (aModel_left) (I i) v = some (mk (tx, pg, le, ln, tk, bd, vi, up va 626 (upd (va 626) i.toNat (v)), vl, vj, la, me)) := wr_sI tgModel_left rfl h0 h1 (by decide) ne_va eq_va
theorem gModel_found  : fR (mk (tx, pg, le, ln, tk, bd, vi, va, vl, vj, la, me)) aModel 10 71 = some (aModel_found) := rd_fR tgModel rfl rfl
theorem nModel_found  : aN (mk (tx, pg, le, ln, tk, bd, vi, va, vl, vj, la, me)) (aModel_found) = some (I 5) := rd_aN tgModel_found rfl (by decide)
theorem rModel_found {i : Int} (h0 : 0 ≤ i) (h1 : i < 5) : aI 0 (mk (tx, pg, le, ln, tk, bd, vi, va, vl, vj, la, me)) (aModel_found) (I i) = some (va 627 i.toNat) := rd_aI tgModel_found rfl h0 h1 (by decide)
theorem wModel_found {i : Int} (h0 : 0 ≤ i) (h1 : i < 5) {v : Int32} : sI 0 (mk (tx, pg, le, ln, tk, bd, vi, va, vl, vj, la, me)) (aModel_found) (I i) v = some (mk (tx, pg, le, ln, tk, bd, vi, up va 627 (upd (va 627) i.toNat (v)), vl, vj, la, me)) := wr_sI tgModel_found rfl h0 h1 (by decide) ne_va eq_va
theorem gModel_foundWeight  : fR (mk (tx, pg, le, ln, tk, bd, vi, va, vl, vj, la, me)) aModel 10 72 = some (aModel_foundWeight) := rd_fR tgModel rfl rfl
theorem nModel_foundWeight  : aN (mk (tx, pg, le, ln, tk, bd, vi, va, vl, vj, la, me)) (aModel_foundWeight) = some (I 25) := rd_aN tgModel_foundWeight rfl (by decide)
theorem rModel_foundWeight {i : Int} (h0 : 0 ≤ i) (h1 : i < 25) : aI 0 (mk (tx, pg, le, ln, tk, bd, vi, va, vl, vj, la, me)) (aModel_foundWeight) (I i) = some (va 628 i.toNat) := rd_aI tgModel_foundWeight rfl h0 h1 (by decide)
theorem wModel_foundWeight {i : Int} (h0 : 0 ≤ i) (h1 : i < 25) {v : Int32} : sI 0 (mk (tx, pg, le, ln, tk, bd, vi, va, vl, vj, la, me)) (aModel_foundWeight) (I i) v = some (mk (tx, pg, le, ln, tk, bd, vi, up va 628 (upd (va 628) i.toNat (v)), vl, vj, la, me)) := wr_sI tgModel_foundWeight rfl h0 h1 (by decide) ne_va eq_va
theorem gModel_foundAtom  : fR (mk (tx, pg, le, ln, tk, bd, vi, va, vl, vj, la, me)) aModel 10 73 = some (aModel_foundAtom) := rd_fR tgModel rfl rfl
theorem nModel_foundAtom  : aN (mk (tx, pg, le, ln, tk, bd, vi, va, vl, vj, la, me)) (aModel_foundAtom) = some (I 100) := rd_aN tgModel_foundAtom rfl (by decide)
theorem rModel_foundAtom {i : Int} (h0 : 0 ≤ i) (h1 : i < 100) : aI 0 (mk (tx, pg, le, ln, tk, bd, vi, va, vl, vj, la, me)) (aModel_foundAtom) (I i) = some (va 629 i.toNat) := rd_aI tgModel_foundAtom rfl h0 h1 (by decide)
theorem wModel_foundAtom {i : Int} (h0 : 0 ≤ i) (h1 : i < 100) {v : Int32} : sI 0 (mk (tx, pg, le, ln, tk, bd, vi, va, vl, vj, la, me)) (aModel_foundAtom) (I i) v = some (mk (tx, pg, le, ln, tk, bd, vi, up va 629 (upd (va 629) i.toNat (v)), vl, vj, la, me)) := wr_sI tgModel_foundAtom rfl h0 h1 (by decide) ne_va eq_va
theorem gModel_taken  : fR (mk (tx, pg, le, ln, tk, bd, vi, va, vl, vj, la, me)) aModel 10 74 = some (aModel_taken) := rd_fR tgModel rfl rfl
theorem nModel_taken  : aN (mk (tx, pg, le, ln, tk, bd, vi, va, vl, vj, la, me)) (aModel_taken) = some (I 5) := rd_aN tgModel_taken rfl (by decide)
theorem rModel_taken {i : Int} (h0 : 0 ≤ i) (h1 : i < 5) : aI 0 (mk (tx, pg, le, ln, tk, bd, vi, va, vl, vj, la, me)) (aModel_taken) (I i) = some (va 630 i.toNat) := rd_aI tgModel_taken rfl h0 h1 (by decide)
theorem wModel_taken {i : Int} (h0 : 0 ≤ i) (h1 : i < 5) {v : Int32} : sI 0 (mk (tx, pg, le, ln, tk, bd, vi, va, vl, vj, la, me)) (aModel_taken) (I i) v = some (mk (tx, pg, le, ln, tk, bd, vi, up va 630 (upd (va 630) i.toNat (v)), vl, vj, la, me)) := wr_sI tgModel_taken rfl h0 h1 (by decide) ne_va eq_va
theorem gModel_other  : fR (mk (tx, pg, le, ln, tk, bd, vi, va, vl, vj, la, me)) aModel 10 75 = some (aModel_other) := rd_fR tgModel rfl rfl
theorem nModel_other  : aN (mk (tx, pg, le, ln, tk, bd, vi, va, vl, vj, la, me)) (aModel_other) = some (I 20) := rd_aN tgModel_other rfl (by decide)
theorem rModel_other {i : Int} (h0 : 0 ≤ i) (h1 : i < 20) : aI 0 (mk (tx, pg, le, ln, tk, bd, vi, va, vl, vj, la, me)) (aModel_other) (I i) = some (va 631 i.toNat) := rd_aI tgModel_other rfl h0 h1 (by decide)
theorem wModel_other {i : Int} (h0 : 0 ≤ i) (h1 : i < 20) {v : Int32} : sI 0 (mk (tx, pg, le, ln, tk, bd, vi, va, vl, vj, la, me)) (aModel_other) (I i) v = some (mk (tx, pg, le, ln, tk, bd, vi, up va 631 (upd (va 631) i.toNat (v)), vl, vj, la, me)) := wr_sI tgModel_other rfl h0 h1 (by decide) ne_va eq_va
theorem rOut {i : Int} (h0 : 0 ≤ i) (h1 : i < 1) : aJ (mk (tx, pg, le, ln, tk, bd, vi, va, vl, vj, la, me)) aOut (I i) = some (vl 632 i.toNat) := rd_aJ tgOut rfl h0 h1 (by decide)
theorem wOut {i : Int} (h0 : 0 ≤ i) (h1 : i < 1) {v : Int64} : sJ (mk (tx, pg, le, ln, tk, bd, vi, va, vl, vj, la, me)) aOut (I i) v = some (mk (tx, pg, le, ln, tk, bd, vi, va, up vl 632 (vp_updL (vl 632) i.toNat v), vj, la, me)) := wr_sJ tgOut rfl h0 h1 (by decide) ne_vl eq_vl
end
