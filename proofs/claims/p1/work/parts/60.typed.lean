/-! THE TYPED STATE: what the two objects and the law's row of one long hold; mk lays it as cells (laid by wip/whole/tools/gen_typed.py).
A state is a tuple: texts (signs, places by class, size), programs (atoms, size), learnts (any, parting), lines (steps, stepCount), tasks (lineOf, examples, refusals, pins, standing, bestCount, isBestKnown), boards (spots, placesOfSign, cutPlaces, eachPlaces, eachSizes), each by its address; the single objects' ints by 100 * class + field; their rows of ints by address; rows of longs by address; searches; lookedAt; members. -/
def rch (e : Nat → Nat) : Nat → Nat → Option Nat
  | 0 => fun _ => none
  | k + 1 => va_up (rch e k) k (some (e k))
theorem rch_lt {e : Nat → Nat} {i : Nat} : ∀ {n : Nat}, i < n → rch e n i = some (e i)
  | k + 1, h => by
    unfold rch va_up
    by_cases hi : i = k
    · rw [if_pos hi, hi]
    · rw [if_neg hi]
      exact rch_lt (by omega)
def up {α : Type} (f : Nat → α) (a : Nat) (v : α) : Nat → α := fun b => if b = a then v else f b
theorem up_same {α : Type} {f : Nat → α} {a : Nat} {v : α} : up f a v a = v := by unfold up; rw [if_pos rfl]
theorem up_ne {α : Type} {f : Nat → α} {a b : Nat} {v : α} (h : b ≠ a) : up f a v b = f b := by unfold up; rw [if_neg h]
theorem up_up {α : Type} {f : Nat → α} {a : Nat} {v w : α} : up (up f a v) a w = up f a w := by
  funext b
  unfold up
  by_cases h : b = a <;> simp [h]
abbrev ZText : Type := (Nat → Int32) × (Nat → Int32) × Int32
abbrev ZProg : Type := (Nat → Int32) × Int32
abbrev ZLearnt : Type := Int32 × Int32
abbrev ZLine : Type := (Nat → Int32) × Int32
abbrev ZTask : Type := (Nat → Int32) × Int32 × Int32 × (Nat → Int32) × Int32 × Int32 × Int32
abbrev ZBoard : Type := (Nat → Int32) × (Nat → Int32) × (Nat → Int32) × (Nat → Int32) × (Nat → Int32)
abbrev Z : Type := (Nat → ZText) × (Nat → ZProg) × (Nat → ZLearnt) × (Nat → ZLine) × (Nat → ZTask) × (Nat → ZBoard) × (Nat → Int32) × (Nat → Nat → Int32) × (Nat → Nat → Int64) × (Int64) × (Option Nat) × (Nat → Option Nat)
def aText_signs (a : Nat) : Nat := a + 1
def aText_placesOf (a : Nat) : Nat := a + 2
def aProg_atoms (a : Nat) : Nat := a + 1
def aLearnt_first (a : Nat) : Nat := a + 1
def aLearnt_second (a : Nat) : Nat := a + 3
def aLine_came (a : Nat) : Nat := a + 1
def aLine_now (a : Nat) : Nat := a + 4
def aLine_steps (a : Nat) : Nat := a + 7
def aTask_was (a : Nat) : Nat := a + 1
def eTask_was (a i : Nat) : Nat := a + 13 + 12 * i
def aTask_shown (a : Nat) : Nat := a + 2
def eTask_shown (a i : Nat) : Nat := a + 16 + 12 * i
def aTask_lineOf (a : Nat) : Nat := a + 3
def aTask_refusedOf (a : Nat) : Nat := a + 4
def eTask_refusedOf (a i : Nat) : Nat := a + 19 + 12 * i
def aTask_refused (a : Nat) : Nat := a + 5
def eTask_refused (a i : Nat) : Nat := a + 22 + 12 * i
def aTask_pins (a : Nat) : Nat := a + 6
def aTask_learnt (a : Nat) : Nat := a + 7
def aTask_best (a : Nat) : Nat := a + 12
def eTask_best (a i : Nat) : Nat := a + 61 + 2 * i
def aBoard_was (a : Nat) : Nat := a + 1
def aBoard_shown (a : Nat) : Nat := a + 4
def aBoard_spots (a : Nat) : Nat := a + 7
def aBoard_placesOfSign (a : Nat) : Nat := a + 8
def aBoard_cutPlaces (a : Nat) : Nat := a + 9
def aBoard_eachPlaces (a : Nat) : Nat := a + 10
def aBoard_eachSizes (a : Nat) : Nat := a + 11
def aBoard_made (a : Nat) : Nat := a + 12
def aFinder : Nat := 439
def aFinder_found : Nat := 440
def eFinder_found (i : Nat) : Nat := 520 + 2 * i
def aFinder_pins : Nat := 513
def aFinder_pinIndexes : Nat := 514
def aFinder_ways : Nat := 515
def aFinder_knownKeys : Nat := 516
def aFinder_knownEndings : Nat := 517
def aFinder_at_ : Nat := 518
def aFinder_row : Nat := 519
def aStock : Nat := 441
def aStock_boards : Nat := 442
def eStock_boards (i : Nat) : Nat := 453 + 15 * i
def aStock_members : Nat := 443
def aStock_atoms : Nat := 444
def aStock_weights : Nat := 445
def aStock_places : Nat := 446
def aStock_sizes : Nat := 447
def aStock_shared : Nat := 448
def aStock_groups : Nat := 449
def aStock_groupWeights : Nat := 450
def aStock_newest : Nat := 451
def aStock_older : Nat := 452
def aLearner : Nat := 438
def aLearner_chosen : Nat := 530
def eLearner_chosen (i : Nat) : Nat := 538 + 2 * i
def aLearner_tried : Nat := 531
def aLearner_made : Nat := 532
def aLearner_madeFirst : Nat := 535
def aScript : Nat := 0
def aScript_draft : Nat := 1
def aScript_made : Nat := 4
def aScript_tasks : Nat := 7
def eScript_tasks (i : Nat) : Nat := 8 + 71 * i
def aScript_lines : Nat := 221
def eScript_lines (i : Nat) : Nat := 222 + 8 * i
def aScript_ranBy : Nat := 286
def eScript_ranBy (i : Nat) : Nat := 287 + 5 * i
def aScript_runCounts : Nat := 437
def aModel : Nat := 570
def aModel_draft : Nat := 571
def aModel_came : Nat := 572
def aModel_cameSize : Nat := 573
def aModel_steps : Nat := 574
def aModel_step : Nat := 575
def aModel_examples : Nat := 576
def aModel_shownOn : Nat := 577
def aModel_example_ : Nat := 578
def aModel_exampleSize : Nat := 579
def aModel_shown : Nat := 580
def aModel_shownSize : Nat := 581
def aModel_refusals : Nat := 582
def aModel_refusal : Nat := 583
def aModel_refusalSize : Nat := 584
def aModel_refused : Nat := 585
def aModel_refusedSize : Nat := 586
def aModel_pinKind : Nat := 587
def aModel_pinA : Nat := 588
def aModel_pinB : Nat := 589
def aModel_pinC : Nat := 590
def aModel_pinSign : Nat := 591
def aModel_hasLearnt : Nat := 592
def aModel_conditionOf : Nat := 593
def aModel_isStanding : Nat := 594
def aModel_isUndone : Nat := 595
def aModel_runCondition : Nat := 596
def aModel_atoms : Nat := 597
def aModel_weightOf : Nat := 598
def aModel_kind : Nat := 599
def aModel_a : Nat := 600
def aModel_b : Nat := 601
def aModel_c : Nat := 602
def aModel_sign : Nat := 603
def aModel_setState : Nat := 604
def aModel_text : Nat := 605
def aModel_runsOf : Nat := 606
def aModel_runAt : Nat := 607
def aModel_runEnd : Nat := 608
def aModel_making : Nat := 609
def aModel_constSign : Nat := 610
def aModel_constSize : Nat := 611
def aModel_match_ : Nat := 612
def aModel_length : Nat := 613
def aModel_weight : Nat := 614
def aModel_valid : Nat := 615
def aModel_in_ : Nat := 616
def aModel_stride : Nat := 617
def aModel_radix : Nat := 618
def aModel_one : Nat := 619
def aModel_two : Nat := 620
def aModel_mark : Nat := 621
def aModel_three : Nat := 622
def aModel_pinned : Nat := 623
def aModel_at_ : Nat := 624
def aModel_chosen : Nat := 625
def aModel_left : Nat := 626
def aModel_found : Nat := 627
def aModel_foundWeight : Nat := 628
def aModel_foundAtom : Nat := 629
def aModel_taken : Nat := 630
def aModel_other : Nat := 631
def sT : Nat → Nat
  | 437 => 3
  | 592 => 3
  | 594 => 3
  | 595 => 3
  | _ => 0
def sN : Nat → Nat
  | 513 => 4
  | 514 => 4
  | 518 => 20
  | 519 => 4
  | 444 => 1812
  | 445 => 1812
  | 446 => 7248
  | 447 => 7248
  | 448 => 84
  | 449 => 1812
  | 450 => 1812
  | 451 => 21
  | 452 => 1812
  | 531 => 16
  | 437 => 30
  | 571 => 20
  | 572 => 160
  | 573 => 8
  | 574 => 8
  | 575 => 320
  | 576 => 3
  | 577 => 12
  | 578 => 240
  | 579 => 12
  | 580 => 240
  | 581 => 12
  | 582 => 3
  | 583 => 240
  | 584 => 12
  | 585 => 240
  | 586 => 12
  | 587 => 12
  | 588 => 12
  | 589 => 12
  | 590 => 12
  | 591 => 48
  | 592 => 3
  | 593 => 3
  | 594 => 3
  | 595 => 30
  | 596 => 30
  | 597 => 87
  | 598 => 87
  | 599 => 348
  | 600 => 348
  | 601 => 348
  | 602 => 348
  | 603 => 1392
  | 604 => 16
  | 605 => 20
  | 606 => 4
  | 607 => 44
  | 608 => 44
  | 609 => 140
  | 610 => 1200
  | 611 => 300
  | 612 => 16000
  | 613 => 16000
  | 614 => 4000
  | 615 => 4000
  | 616 => 4
  | 617 => 4
  | 618 => 4
  | 619 => 194481
  | 620 => 194481
  | 621 => 194481
  | 623 => 4
  | 624 => 20
  | 625 => 4
  | 626 => 5
  | 627 => 5
  | 628 => 25
  | 629 => 100
  | 630 => 5
  | 631 => 20
  | _ => 0
def sM : Nat → Nat
  | 632 => 1
  | 515 => 924
  | 516 => 2048
  | 517 => 2048
  | 622 => 4000
  | _ => 0
def zc (z : Z) (g : Nat × Nat) : cE := match g.1 with
  | 0 => .inr (8, [.ref (aText_signs g.2), .ref (aText_placesOf g.2), .int ((z.1 g.2).2.2)])
  | 1 => .inr (5, [.ref (aProg_atoms g.2), .int ((z.2.1 g.2).2)])
  | 2 => .inr (3, [.ref (aLearnt_first g.2), .ref (aLearnt_second g.2), .int ((z.2.2.1 g.2).1), .int ((z.2.2.1 g.2).2)])
  | 3 => .inr (4, [.ref (aLine_came g.2), .ref (aLine_now g.2), .ref (aLine_steps g.2), .int ((z.2.2.2.1 g.2).2)])
  | 4 => .inr (7, [.ref (aTask_was g.2), .ref (aTask_shown g.2), .ref (aTask_lineOf g.2), .int ((z.2.2.2.2.1 g.2).2.1), .ref (aTask_refusedOf g.2), .ref (aTask_refused g.2), .int ((z.2.2.2.2.1 g.2).2.2.1), .ref (aTask_pins g.2), .ref (aTask_learnt g.2), .int ((z.2.2.2.2.1 g.2).2.2.2.2.1), .ref (aTask_best g.2), .int ((z.2.2.2.2.1 g.2).2.2.2.2.2.1), .int ((z.2.2.2.2.1 g.2).2.2.2.2.2.2)])
  | 5 => .inr (0, [.ref (aBoard_was g.2), .ref (aBoard_shown g.2), .ref (aBoard_spots g.2), .ref (aBoard_placesOfSign g.2), .ref (aBoard_cutPlaces g.2), .ref (aBoard_eachPlaces g.2), .ref (aBoard_eachSizes g.2), .ref (aBoard_made g.2)])
  | 6 => .inr (1, [.ref (aFinder_found), .int (z.2.2.2.2.2.2.1 101), .ref (aStock), va_rf z.2.2.2.2.2.2.2.2.2.2.1, .int (z.2.2.2.2.2.2.1 104), .ref (aFinder_pins), .ref (aFinder_pinIndexes), .int (z.2.2.2.2.2.2.1 107), .ref (aFinder_ways), .ref (aFinder_knownKeys), .ref (aFinder_knownEndings), .long z.2.2.2.2.2.2.2.2.2.1, .ref (aFinder_at_), .ref (aFinder_row)])
  | 7 => .inr (6, [.ref (aStock_boards), .ref (aStock_members), .int (z.2.2.2.2.2.2.1 602), .ref (aStock_atoms), .ref (aStock_weights), .ref (aStock_places), .ref (aStock_sizes), .int (z.2.2.2.2.2.2.1 607), .ref (aStock_shared), .ref (aStock_groups), .ref (aStock_groupWeights), .int (z.2.2.2.2.2.2.1 611), .ref (aStock_newest), .ref (aStock_older)])
  | 8 => .inr (2, [.ref (aFinder), .ref (aLearner_chosen), .ref (aLearner_tried), .ref (aLearner_made), .ref (aLearner_madeFirst)])
  | 9 => .inr (9, [.ref (aScript_draft), .ref (aScript_made), .ref (aScript_tasks), .ref (aScript_lines), .ref (aScript_ranBy), .ref (aScript_runCounts), .ref (aLearner), .int (z.2.2.2.2.2.2.1 907), .int (z.2.2.2.2.2.2.1 908), .int (z.2.2.2.2.2.2.1 909)])
  | 10 => .inr (10, [.int (z.2.2.2.2.2.2.1 1000), .int (z.2.2.2.2.2.2.1 1001), .ref (aModel_draft), .int (z.2.2.2.2.2.2.1 1003), .ref (aModel_came), .ref (aModel_cameSize), .ref (aModel_steps), .ref (aModel_step), .ref (aModel_examples), .ref (aModel_shownOn), .ref (aModel_example_), .ref (aModel_exampleSize), .ref (aModel_shown), .ref (aModel_shownSize), .ref (aModel_refusals), .ref (aModel_refusal), .ref (aModel_refusalSize), .ref (aModel_refused), .ref (aModel_refusedSize), .ref (aModel_pinKind), .ref (aModel_pinA), .ref (aModel_pinB), .ref (aModel_pinC), .ref (aModel_pinSign), .ref (aModel_hasLearnt), .ref (aModel_conditionOf), .ref (aModel_isStanding), .int (z.2.2.2.2.2.2.1 1027), .ref (aModel_isUndone), .ref (aModel_runCondition), .int (z.2.2.2.2.2.2.1 1030), .ref (aModel_atoms), .ref (aModel_weightOf), .ref (aModel_kind), .ref (aModel_a), .ref (aModel_b), .ref (aModel_c), .ref (aModel_sign), .int (z.2.2.2.2.2.2.1 1038), .ref (aModel_setState), .int (z.2.2.2.2.2.2.1 1040), .ref (aModel_text), .ref (aModel_runsOf), .ref (aModel_runAt), .ref (aModel_runEnd), .int (z.2.2.2.2.2.2.1 1045), .ref (aModel_making), .int (z.2.2.2.2.2.2.1 1047), .ref (aModel_constSign), .ref (aModel_constSize), .int (z.2.2.2.2.2.2.1 1050), .ref (aModel_match_), .ref (aModel_length), .ref (aModel_weight), .int (z.2.2.2.2.2.2.1 1054), .ref (aModel_valid), .int (z.2.2.2.2.2.2.1 1056), .int (z.2.2.2.2.2.2.1 1057), .ref (aModel_in_), .ref (aModel_stride), .ref (aModel_radix), .int (z.2.2.2.2.2.2.1 1061), .ref (aModel_one), .ref (aModel_two), .ref (aModel_mark), .int (z.2.2.2.2.2.2.1 1065), .ref (aModel_three), .ref (aModel_pinned), .ref (aModel_at_), .ref (aModel_chosen), .ref (aModel_left), .ref (aModel_found), .ref (aModel_foundWeight), .ref (aModel_foundAtom), .ref (aModel_taken), .ref (aModel_other)])
  | 11 => .inl (2, 20, .inl (z.1 g.2).1)
  | 12 => .inl (0, 4, .inl (z.1 g.2).2.1)
  | 13 => .inl (0, 4, .inl (z.2.1 g.2).1)
  | 14 => .inl (0, 33, .inl (z.2.2.2.1 g.2).1)
  | 15 => .inl (9, 4, .inr (.inr (.inr (.inr (rch (eTask_was g.2) 4)))))
  | 16 => .inl (9, 4, .inr (.inr (.inr (.inr (rch (eTask_shown g.2) 4)))))
  | 17 => .inl (0, 4, .inl (z.2.2.2.2.1 g.2).1)
  | 18 => .inl (9, 4, .inr (.inr (.inr (.inr (rch (eTask_refusedOf g.2) 4)))))
  | 19 => .inl (9, 4, .inr (.inr (.inr (.inr (rch (eTask_refused g.2) 4)))))
  | 20 => .inl (0, 4, .inl (z.2.2.2.2.1 g.2).2.2.2.1)
  | 21 => .inl (7, 5, .inr (.inr (.inr (.inr (rch (eTask_best g.2) 5)))))
  | 22 => .inl (0, 30, .inl (z.2.2.2.2.2.1 g.2).1)
  | 23 => .inl (0, 128, .inl (z.2.2.2.2.2.1 g.2).2.1)
  | 24 => .inl (0, 1764, .inl (z.2.2.2.2.2.1 g.2).2.2.1)
  | 25 => .inl (0, 72, .inl (z.2.2.2.2.2.1 g.2).2.2.2.1)
  | 26 => .inl (0, 72, .inl (z.2.2.2.2.2.1 g.2).2.2.2.2)
  | 27 => .inl (7, 5, .inr (.inr (.inr (.inr (rch eFinder_found 5)))))
  | 28 => .inl (4, 4, .inr (.inr (.inr (.inr (rch eStock_boards 4)))))
  | 29 => .inl (4, 4, .inr (.inr (.inr (.inr z.2.2.2.2.2.2.2.2.2.2.2))))
  | 30 => .inl (7, 16, .inr (.inr (.inr (.inr (rch eLearner_chosen 16)))))
  | 31 => .inl (8, 3, .inr (.inr (.inr (.inr (rch eScript_tasks 3)))))
  | 32 => .inl (6, 8, .inr (.inr (.inr (.inr (rch eScript_lines 8)))))
  | 33 => .inl (5, 30, .inr (.inr (.inr (.inr (rch eScript_ranBy 30)))))
  | 34 => .inl (sT g.2, sN g.2, .inl (z.2.2.2.2.2.2.2.1 g.2))
  | _ => .inl (1, sM g.2, .inr (.inl (z.2.2.2.2.2.2.2.2.1 g.2)))
def shp : List (Nat × Nat) := [(9, 0), (0, 1), (11, 1), (12, 1), (0, 4), (11, 4), (12, 4), (31, 0), (4, 8), (15, 8), (16, 8), (17, 8), (18, 8), (19, 8), (20, 8), (2, 15), (1, 16), (13, 16), (1, 18), (13, 18), (21, 8), (0, 21), (11, 21), (12, 21), (0, 24), (11, 24), (12, 24), (0, 27), (11, 27), (12, 27), (0, 30), (11, 30), (12, 30), (0, 33), (11, 33), (12, 33), (0, 36), (11, 36), (12, 36), (0, 39), (11, 39), (12, 39), (0, 42), (11, 42), (12, 42), (0, 45), (11, 45), (12, 45), (0, 48), (11, 48), (12, 48), (0, 51), (11, 51), (12, 51), (0, 54), (11, 54), (12, 54), (0, 57), (11, 57), (12, 57), (0, 60), (11, 60), (12, 60), (0, 63), (11, 63), (12, 63), (0, 66), (11, 66), (12, 66), (1, 69), (13, 69), (1, 71), (13, 71), (1, 73), (13, 73), (1, 75), (13, 75), (1, 77), (13, 77), (4, 79), (15, 79), (16, 79), (17, 79), (18, 79), (19, 79), (20, 79), (2, 86), (1, 87), (13, 87), (1, 89), (13, 89), (21, 79), (0, 92), (11, 92), (12, 92), (0, 95), (11, 95), (12, 95), (0, 98), (11, 98), (12, 98), (0, 101), (11, 101), (12, 101), (0, 104), (11, 104), (12, 104), (0, 107), (11, 107), (12, 107), (0, 110), (11, 110), (12, 110), (0, 113), (11, 113), (12, 113), (0, 116), (11, 116), (12, 116), (0, 119), (11, 119), (12, 119), (0, 122), (11, 122), (12, 122), (0, 125), (11, 125), (12, 125), (0, 128), (11, 128), (12, 128), (0, 131), (11, 131), (12, 131), (0, 134), (11, 134), (12, 134), (0, 137), (11, 137), (12, 137), (1, 140), (13, 140), (1, 142), (13, 142), (1, 144), (13, 144), (1, 146), (13, 146), (1, 148), (13, 148), (4, 150), (15, 150), (16, 150), (17, 150), (18, 150), (19, 150), (20, 150), (2, 157), (1, 158), (13, 158), (1, 160), (13, 160), (21, 150), (0, 163), (11, 163), (12, 163), (0, 166), (11, 166), (12, 166), (0, 169), (11, 169), (12, 169), (0, 172), (11, 172), (12, 172), (0, 175), (11, 175), (12, 175), (0, 178), (11, 178), (12, 178), (0, 181), (11, 181), (12, 181), (0, 184), (11, 184), (12, 184), (0, 187), (11, 187), (12, 187), (0, 190), (11, 190), (12, 190), (0, 193), (11, 193), (12, 193), (0, 196), (11, 196), (12, 196), (0, 199), (11, 199), (12, 199), (0, 202), (11, 202), (12, 202), (0, 205), (11, 205), (12, 205), (0, 208), (11, 208), (12, 208), (1, 211), (13, 211), (1, 213), (13, 213), (1, 215), (13, 215), (1, 217), (13, 217), (1, 219), (13, 219), (32, 0), (3, 222), (0, 223), (11, 223), (12, 223), (0, 226), (11, 226), (12, 226), (14, 222), (3, 230), (0, 231), (11, 231), (12, 231), (0, 234), (11, 234), (12, 234), (14, 230), (3, 238), (0, 239), (11, 239), (12, 239), (0, 242), (11, 242), (12, 242), (14, 238), (3, 246), (0, 247), (11, 247), (12, 247), (0, 250), (11, 250), (12, 250), (14, 246), (3, 254), (0, 255), (11, 255), (12, 255), (0, 258), (11, 258), (12, 258), (14, 254), (3, 262), (0, 263), (11, 263), (12, 263), (0, 266), (11, 266), (12, 266), (14, 262), (3, 270), (0, 271), (11, 271), (12, 271), (0, 274), (11, 274), (12, 274), (14, 270), (3, 278), (0, 279), (11, 279), (12, 279), (0, 282), (11, 282), (12, 282), (14, 278), (33, 0), (2, 287), (1, 288), (13, 288), (1, 290), (13, 290), (2, 292), (1, 293), (13, 293), (1, 295), (13, 295), (2, 297), (1, 298), (13, 298), (1, 300), (13, 300), (2, 302), (1, 303), (13, 303), (1, 305), (13, 305), (2, 307), (1, 308), (13, 308), (1, 310), (13, 310), (2, 312), (1, 313), (13, 313), (1, 315), (13, 315), (2, 317), (1, 318), (13, 318), (1, 320), (13, 320), (2, 322), (1, 323), (13, 323), (1, 325), (13, 325), (2, 327), (1, 328), (13, 328), (1, 330), (13, 330), (2, 332), (1, 333), (13, 333), (1, 335), (13, 335), (2, 337), (1, 338), (13, 338), (1, 340), (13, 340), (2, 342), (1, 343), (13, 343), (1, 345), (13, 345), (2, 347), (1, 348), (13, 348), (1, 350), (13, 350), (2, 352), (1, 353), (13, 353), (1, 355), (13, 355), (2, 357), (1, 358), (13, 358), (1, 360), (13, 360), (2, 362), (1, 363), (13, 363), (1, 365), (13, 365), (2, 367), (1, 368), (13, 368), (1, 370), (13, 370), (2, 372), (1, 373), (13, 373), (1, 375), (13, 375), (2, 377), (1, 378), (13, 378), (1, 380), (13, 380), (2, 382), (1, 383), (13, 383), (1, 385), (13, 385), (2, 387), (1, 388), (13, 388), (1, 390), (13, 390), (2, 392), (1, 393), (13, 393), (1, 395), (13, 395), (2, 397), (1, 398), (13, 398), (1, 400), (13, 400), (2, 402), (1, 403), (13, 403), (1, 405), (13, 405), (2, 407), (1, 408), (13, 408), (1, 410), (13, 410), (2, 412), (1, 413), (13, 413), (1, 415), (13, 415), (2, 417), (1, 418), (13, 418), (1, 420), (13, 420), (2, 422), (1, 423), (13, 423), (1, 425), (13, 425), (2, 427), (1, 428), (13, 428), (1, 430), (13, 430), (2, 432), (1, 433), (13, 433), (1, 435), (13, 435), (34, 437), (8, 0), (6, 0), (27, 0), (7, 0), (28, 0), (29, 0), (34, 444), (34, 445), (34, 446), (34, 447), (34, 448), (34, 449), (34, 450), (34, 451), (34, 452), (5, 453), (0, 454), (11, 454), (12, 454), (0, 457), (11, 457), (12, 457), (22, 453), (23, 453), (24, 453), (25, 453), (26, 453), (0, 465), (11, 465), (12, 465), (5, 468), (0, 469), (11, 469), (12, 469), (0, 472), (11, 472), (12, 472), (22, 468), (23, 468), (24, 468), (25, 468), (26, 468), (0, 480), (11, 480), (12, 480), (5, 483), (0, 484), (11, 484), (12, 484), (0, 487), (11, 487), (12, 487), (22, 483), (23, 483), (24, 483), (25, 483), (26, 483), (0, 495), (11, 495), (12, 495), (5, 498), (0, 499), (11, 499), (12, 499), (0, 502), (11, 502), (12, 502), (22, 498), (23, 498), (24, 498), (25, 498), (26, 498), (0, 510), (11, 510), (12, 510), (34, 513), (34, 514), (35, 515), (35, 516), (35, 517), (34, 518), (34, 519), (1, 520), (13, 520), (1, 522), (13, 522), (1, 524), (13, 524), (1, 526), (13, 526), (1, 528), (13, 528), (30, 0), (34, 531), (0, 532), (11, 532), (12, 532), (0, 535), (11, 535), (12, 535), (1, 538), (13, 538), (1, 540), (13, 540), (1, 542), (13, 542), (1, 544), (13, 544), (1, 546), (13, 546), (1, 548), (13, 548), (1, 550), (13, 550), (1, 552), (13, 552), (1, 554), (13, 554), (1, 556), (13, 556), (1, 558), (13, 558), (1, 560), (13, 560), (1, 562), (13, 562), (1, 564), (13, 564), (1, 566), (13, 566), (1, 568), (13, 568), (10, 0), (34, 571), (34, 572), (34, 573), (34, 574), (34, 575), (34, 576), (34, 577), (34, 578), (34, 579), (34, 580), (34, 581), (34, 582), (34, 583), (34, 584), (34, 585), (34, 586), (34, 587), (34, 588), (34, 589), (34, 590), (34, 591), (34, 592), (34, 593), (34, 594), (34, 595), (34, 596), (34, 597), (34, 598), (34, 599), (34, 600), (34, 601), (34, 602), (34, 603), (34, 604), (34, 605), (34, 606), (34, 607), (34, 608), (34, 609), (34, 610), (34, 611), (34, 612), (34, 613), (34, 614), (34, 615), (34, 616), (34, 617), (34, 618), (34, 619), (34, 620), (34, 621), (35, 622), (34, 623), (34, 624), (34, 625), (34, 626), (34, 627), (34, 628), (34, 629), (34, 630), (34, 631), (35, 632)]
def adr (g : Nat × Nat) : Nat := match g.1 with
  | 0 => g.2 + 0
  | 1 => g.2 + 0
  | 2 => g.2 + 0
  | 3 => g.2 + 0
  | 4 => g.2 + 0
  | 5 => g.2 + 0
  | 6 => 439
  | 7 => 441
  | 8 => 438
  | 9 => 0
  | 10 => 570
  | 11 => g.2 + 1
  | 12 => g.2 + 2
  | 13 => g.2 + 1
  | 14 => g.2 + 7
  | 15 => g.2 + 1
  | 16 => g.2 + 2
  | 17 => g.2 + 3
  | 18 => g.2 + 4
  | 19 => g.2 + 5
  | 20 => g.2 + 6
  | 21 => g.2 + 12
  | 22 => g.2 + 7
  | 23 => g.2 + 8
  | 24 => g.2 + 9
  | 25 => g.2 + 10
  | 26 => g.2 + 11
  | 27 => 440
  | 28 => 442
  | 29 => 443
  | 30 => 530
  | 31 => 7
  | 32 => 221
  | 33 => 286
  | 34 => g.2
  | _ => g.2
theorem shp_len : shp.length = 633 := by decide +kernel
theorem shp_adr : ∀ k, k < 633 → (shp[k]?).all (fun g => adr g == k) = true := by decide +kernel
theorem shp_inj {k : Nat} {g : Nat × Nat} (h : shp[k]? = some g) : adr g = k := by
  have hk : k < 633 := shp_len ▸ (List.getElem?_eq_some_iff.mp h).1
  have := shp_adr k hk
  rw [h] at this
  simpa using this
def mk (z : Z) : cM := shp.map (zc z)
theorem mk_get {z : Z} {k : Nat} {g : Nat × Nat} (h : shp[k]? = some g) : (mk z)[k]? = some (zc z g) := by
  unfold mk
  rw [List.getElem?_map, h]
  rfl
theorem mk_len (z : Z) : (mk z).length = 633 := by unfold mk; rw [List.length_map]; exact shp_len
theorem mk_set {z z' : Z} {k : Nat} {g : Nat × Nat} {e : cE} (h : shp[k]? = some g) (h1 : ∀ g', adr g' ≠ adr g → zc z' g' = zc z g') (h2 : zc z' g = e) : (mk z).set k e = mk z' := by
  apply List.ext_getElem?
  intro j
  unfold mk
  rw [List.getElem?_set, List.length_map, List.getElem?_map, List.getElem?_map]
  by_cases hj : k = j
  · subst hj
    rw [if_pos rfl, if_pos (List.getElem?_eq_some_iff.mp h).1, h]
    simp [h2]
  · rw [if_neg hj]
    cases hg : shp[j]? with
    | none => rfl
    | some g' =>
      have hne : adr g' ≠ adr g := fun q => hj (by rw [← shp_inj h, ← shp_inj hg, q])
      simp [h1 g' hne]
