/-! THE TYPED STATE: what the two objects and the law's row of one long hold, by name; mk lays it as cells (laid by wip/whole/tools/gen_typed.py) -/
def up {α : Type} (f : Nat → α) (a : Nat) (v : α) : Nat → α := fun b => if b = a then v else f b
structure ZText where
  signs : Nat → Int32
  placesOf : Nat → Int32
  size : Int32
structure ZProg where
  atoms : Nat → Int32
  size : Int32
structure ZLearnt where
  any : Int32
  parting : Int32
structure ZLine where
  steps : Nat → Int32
  stepCount : Int32
structure ZTask where
  lineOf : Nat → Int32
  examples : Int32
  refusals : Int32
  pins : Nat → Int32
  standing : Int32
  bestCount : Int32
  isBestKnown : Int32
structure ZBoard where
  spots : Nat → Int32
  placesOfSign : Nat → Int32
  cutPlaces : Nat → Int32
  eachPlaces : Nat → Int32
  eachSizes : Nat → Int32
structure ZFinder where
  foundCount : Int32
  lookedAt : Option Nat
  boardCount : Int32
  pins : Nat → Int32
  pinIndexes : Nat → Int32
  isPinned : Int32
  ways : Nat → Int64
  knownKeys : Nat → Int64
  knownEndings : Nat → Int64
  searches : Int64
  at_ : Nat → Int32
  row : Nat → Int32
structure ZStock where
  members : Nat → Option Nat
  memberCount : Int32
  atoms : Nat → Int32
  weights : Nat → Int32
  places : Nat → Int32
  sizes : Nat → Int32
  atomCount : Int32
  shared : Nat → Int32
  groups : Nat → Int32
  groupWeights : Nat → Int32
  groupCount : Int32
  newest : Nat → Int32
  older : Nat → Int32
structure ZLearner where
  tried : Nat → Int32
structure ZScript where
  runCounts : Nat → Int32
  lineCount : Int32
  runCount : Int32
  askedLines : Int32
structure Z where
  tx : Nat → ZText
  pg : Nat → ZProg
  le : Nat → ZLearnt
  ln : Nat → ZLine
  tk : Nat → ZTask
  bd : Nat → ZBoard
  fi : ZFinder
  st : ZStock
  lr : ZLearner
  sc : ZScript
  mi : Nat → Int32
  ma : Nat → Nat → Int32
  ml : Nat → Int64
  out : Nat → Int64
def aText_signs (a : Nat) : Nat := a + 1
def aText_placesOf (a : Nat) : Nat := a + 2
def aProg_atoms (a : Nat) : Nat := a + 1
def aLearnt_first (a : Nat) : Nat := a + 1
def aLearnt_second (a : Nat) : Nat := a + 3
def aLine_came (a : Nat) : Nat := a + 1
def aLine_now (a : Nat) : Nat := a + 4
def aLine_steps (a : Nat) : Nat := a + 7
def aTask_was (a : Nat) : Nat := a + 1
def eTask_was (a i : Nat) : Nat := a + 13 + 12 * i
def aTask_shown (a : Nat) : Nat := a + 2
def eTask_shown (a i : Nat) : Nat := a + 16 + 12 * i
def aTask_lineOf (a : Nat) : Nat := a + 3
def aTask_refusedOf (a : Nat) : Nat := a + 4
def eTask_refusedOf (a i : Nat) : Nat := a + 19 + 12 * i
def aTask_refused (a : Nat) : Nat := a + 5
def eTask_refused (a i : Nat) : Nat := a + 22 + 12 * i
def aTask_pins (a : Nat) : Nat := a + 6
def aTask_learnt (a : Nat) : Nat := a + 7
def aTask_best (a : Nat) : Nat := a + 12
def eTask_best (a i : Nat) : Nat := a + 61 + 2 * i
def aBoard_was (a : Nat) : Nat := a + 1
def aBoard_shown (a : Nat) : Nat := a + 4
def aBoard_spots (a : Nat) : Nat := a + 7
def aBoard_placesOfSign (a : Nat) : Nat := a + 8
def aBoard_cutPlaces (a : Nat) : Nat := a + 9
def aBoard_eachPlaces (a : Nat) : Nat := a + 10
def aBoard_eachSizes (a : Nat) : Nat := a + 11
def aBoard_made (a : Nat) : Nat := a + 12
def aFinder : Nat := 439
def aFinder_found : Nat := 440
def eFinder_found (i : Nat) : Nat := 520 + 2 * i
def aFinder_pins : Nat := 513
def aFinder_pinIndexes : Nat := 514
def aFinder_ways : Nat := 515
def aFinder_knownKeys : Nat := 516
def aFinder_knownEndings : Nat := 517
def aFinder_at_ : Nat := 518
def aFinder_row : Nat := 519
def aStock : Nat := 441
def aStock_boards : Nat := 442
def eStock_boards (i : Nat) : Nat := 453 + 15 * i
def aStock_members : Nat := 443
def aStock_atoms : Nat := 444
def aStock_weights : Nat := 445
def aStock_places : Nat := 446
def aStock_sizes : Nat := 447
def aStock_shared : Nat := 448
def aStock_groups : Nat := 449
def aStock_groupWeights : Nat := 450
def aStock_newest : Nat := 451
def aStock_older : Nat := 452
def aLearner : Nat := 438
def aLearner_chosen : Nat := 530
def eLearner_chosen (i : Nat) : Nat := 538 + 2 * i
def aLearner_tried : Nat := 531
def aLearner_made : Nat := 532
def aLearner_madeFirst : Nat := 535
def aScript : Nat := 0
def aScript_draft : Nat := 1
def aScript_made : Nat := 4
def aScript_tasks : Nat := 7
def eScript_tasks (i : Nat) : Nat := 8 + 71 * i
def aScript_lines : Nat := 221
def eScript_lines (i : Nat) : Nat := 222 + 8 * i
def aScript_ranBy : Nat := 286
def eScript_ranBy (i : Nat) : Nat := 287 + 5 * i
def aScript_runCounts : Nat := 437
def aModel : Nat := 570
def aModel_draft : Nat := 571
def aModel_came : Nat := 572
def aModel_cameSize : Nat := 573
def aModel_steps : Nat := 574
def aModel_step : Nat := 575
def aModel_examples : Nat := 576
def aModel_shownOn : Nat := 577
def aModel_example_ : Nat := 578
def aModel_exampleSize : Nat := 579
def aModel_shown : Nat := 580
def aModel_shownSize : Nat := 581
def aModel_refusals : Nat := 582
def aModel_refusal : Nat := 583
def aModel_refusalSize : Nat := 584
def aModel_refused : Nat := 585
def aModel_refusedSize : Nat := 586
def aModel_pinKind : Nat := 587
def aModel_pinA : Nat := 588
def aModel_pinB : Nat := 589
def aModel_pinC : Nat := 590
def aModel_pinSign : Nat := 591
def aModel_hasLearnt : Nat := 592
def aModel_conditionOf : Nat := 593
def aModel_isStanding : Nat := 594
def aModel_isUndone : Nat := 595
def aModel_runCondition : Nat := 596
def aModel_atoms : Nat := 597
def aModel_weightOf : Nat := 598
def aModel_kind : Nat := 599
def aModel_a : Nat := 600
def aModel_b : Nat := 601
def aModel_c : Nat := 602
def aModel_sign : Nat := 603
def aModel_setState : Nat := 604
def aModel_text : Nat := 605
def aModel_runsOf : Nat := 606
def aModel_runAt : Nat := 607
def aModel_runEnd : Nat := 608
def aModel_making : Nat := 609
def aModel_constSign : Nat := 610
def aModel_constSize : Nat := 611
def aModel_match_ : Nat := 612
def aModel_length : Nat := 613
def aModel_weight : Nat := 614
def aModel_valid : Nat := 615
def aModel_in_ : Nat := 616
def aModel_stride : Nat := 617
def aModel_radix : Nat := 618
def aModel_one : Nat := 619
def aModel_two : Nat := 620
def aModel_mark : Nat := 621
def aModel_three : Nat := 622
def aModel_pinned : Nat := 623
def aModel_at_ : Nat := 624
def aModel_chosen : Nat := 625
def aModel_left : Nat := 626
def aModel_found : Nat := 627
def aModel_foundWeight : Nat := 628
def aModel_foundAtom : Nat := 629
def aModel_taken : Nat := 630
def aModel_other : Nat := 631
inductive TZText where
  | o
  | f_signs
  | f_placesOf
deriving DecidableEq
inductive TZProg where
  | o
  | f_atoms
deriving DecidableEq
inductive TZLearnt where
  | o
deriving DecidableEq
inductive TZLine where
  | o
  | f_steps
deriving DecidableEq
inductive TZTask where
  | o
  | f_was
  | f_shown
  | f_lineOf
  | f_refusedOf
  | f_refused
  | f_pins
  | f_best
deriving DecidableEq
inductive TZBoard where
  | o
  | f_spots
  | f_placesOfSign
  | f_cutPlaces
  | f_eachPlaces
  | f_eachSizes
deriving DecidableEq
inductive TZFinder where
  | o
  | f_found
  | f_pins
  | f_pinIndexes
  | f_ways
  | f_knownKeys
  | f_knownEndings
  | f_at_
  | f_row
deriving DecidableEq
inductive TZStock where
  | o
  | f_boards
  | f_members
  | f_atoms
  | f_weights
  | f_places
  | f_sizes
  | f_shared
  | f_groups
  | f_groupWeights
  | f_newest
  | f_older
deriving DecidableEq
inductive TZLearner where
  | o
  | f_chosen
  | f_tried
deriving DecidableEq
inductive TZScript where
  | o
  | f_tasks
  | f_lines
  | f_ranBy
  | f_runCounts
deriving DecidableEq
inductive TZ where
  | tx (t : TZText) (a : Nat)
  | pg (t : TZProg) (a : Nat)
  | le (t : TZLearnt) (a : Nat)
  | ln (t : TZLine) (a : Nat)
  | tk (t : TZTask) (a : Nat)
  | bd (t : TZBoard) (a : Nat)
  | fi (t : TZFinder)
  | st (t : TZStock)
  | lr (t : TZLearner)
  | sc (t : TZScript)
  | mo
  | ma (k : Nat)
  | ml
  | out
deriving DecidableEq
def zZText (z : ZText) (a : Nat) : TZText → cE
  | .o => .inr (8, [.ref (aText_signs a), .ref (aText_placesOf a), .int z.size])
  | .f_signs => .inl (2, 20, .inl z.signs)
  | .f_placesOf => .inl (0, 4, .inl z.placesOf)
def zZProg (z : ZProg) (a : Nat) : TZProg → cE
  | .o => .inr (5, [.ref (aProg_atoms a), .int z.size])
  | .f_atoms => .inl (0, 4, .inl z.atoms)
def zZLearnt (z : ZLearnt) (a : Nat) : TZLearnt → cE
  | .o => .inr (3, [.ref (aLearnt_first a), .ref (aLearnt_second a), .int z.any, .int z.parting])
def zZLine (z : ZLine) (a : Nat) : TZLine → cE
  | .o => .inr (4, [.ref (aLine_came a), .ref (aLine_now a), .ref (aLine_steps a), .int z.stepCount])
  | .f_steps => .inl (0, 33, .inl z.steps)
def zZTask (z : ZTask) (a : Nat) : TZTask → cE
  | .o => .inr (7, [.ref (aTask_was a), .ref (aTask_shown a), .ref (aTask_lineOf a), .int z.examples, .ref (aTask_refusedOf a), .ref (aTask_refused a), .int z.refusals, .ref (aTask_pins a), .ref (aTask_learnt a), .int z.standing, .ref (aTask_best a), .int z.bestCount, .int z.isBestKnown])
  | .f_was => .inl (9, 4, .inr (.inr (.inr (.inr fun i => if i < 4 then some (eTask_was a i) else none))))
  | .f_shown => .inl (9, 4, .inr (.inr (.inr (.inr fun i => if i < 4 then some (eTask_shown a i) else none))))
  | .f_lineOf => .inl (0, 4, .inl z.lineOf)
  | .f_refusedOf => .inl (9, 4, .inr (.inr (.inr (.inr fun i => if i < 4 then some (eTask_refusedOf a i) else none))))
  | .f_refused => .inl (9, 4, .inr (.inr (.inr (.inr fun i => if i < 4 then some (eTask_refused a i) else none))))
  | .f_pins => .inl (0, 4, .inl z.pins)
  | .f_best => .inl (7, 5, .inr (.inr (.inr (.inr fun i => if i < 5 then some (eTask_best a i) else none))))
def zZBoard (z : ZBoard) (a : Nat) : TZBoard → cE
  | .o => .inr (0, [.ref (aBoard_was a), .ref (aBoard_shown a), .ref (aBoard_spots a), .ref (aBoard_placesOfSign a), .ref (aBoard_cutPlaces a), .ref (aBoard_eachPlaces a), .ref (aBoard_eachSizes a), .ref (aBoard_made a)])
  | .f_spots => .inl (0, 30, .inl z.spots)
  | .f_placesOfSign => .inl (0, 128, .inl z.placesOfSign)
  | .f_cutPlaces => .inl (0, 1764, .inl z.cutPlaces)
  | .f_eachPlaces => .inl (0, 72, .inl z.eachPlaces)
  | .f_eachSizes => .inl (0, 72, .inl z.eachSizes)
def zZFinder (z : ZFinder) : TZFinder → cE
  | .o => .inr (1, [.ref aFinder_found, .int z.foundCount, .ref (aStock), va_rf z.lookedAt, .int z.boardCount, .ref aFinder_pins, .ref aFinder_pinIndexes, .int z.isPinned, .ref aFinder_ways, .ref aFinder_knownKeys, .ref aFinder_knownEndings, .long z.searches, .ref aFinder_at_, .ref aFinder_row])
  | .f_found => .inl (7, 5, .inr (.inr (.inr (.inr fun i => if i < 5 then some (eFinder_found i) else none))))
  | .f_pins => .inl (0, 4, .inl z.pins)
  | .f_pinIndexes => .inl (0, 4, .inl z.pinIndexes)
  | .f_ways => .inl (1, 924, .inr (.inl z.ways))
  | .f_knownKeys => .inl (1, 2048, .inr (.inl z.knownKeys))
  | .f_knownEndings => .inl (1, 2048, .inr (.inl z.knownEndings))
  | .f_at_ => .inl (0, 20, .inl z.at_)
  | .f_row => .inl (0, 4, .inl z.row)
def zZStock (z : ZStock) : TZStock → cE
  | .o => .inr (6, [.ref aStock_boards, .ref aStock_members, .int z.memberCount, .ref aStock_atoms, .ref aStock_weights, .ref aStock_places, .ref aStock_sizes, .int z.atomCount, .ref aStock_shared, .ref aStock_groups, .ref aStock_groupWeights, .int z.groupCount, .ref aStock_newest, .ref aStock_older])
  | .f_boards => .inl (4, 4, .inr (.inr (.inr (.inr fun i => if i < 4 then some (eStock_boards i) else none))))
  | .f_members => .inl (4, 4, .inr (.inr (.inr (.inr z.members))))
  | .f_atoms => .inl (0, 1812, .inl z.atoms)
  | .f_weights => .inl (0, 1812, .inl z.weights)
  | .f_places => .inl (0, 7248, .inl z.places)
  | .f_sizes => .inl (0, 7248, .inl z.sizes)
  | .f_shared => .inl (0, 84, .inl z.shared)
  | .f_groups => .inl (0, 1812, .inl z.groups)
  | .f_groupWeights => .inl (0, 1812, .inl z.groupWeights)
  | .f_newest => .inl (0, 21, .inl z.newest)
  | .f_older => .inl (0, 1812, .inl z.older)
def zZLearner (z : ZLearner) : TZLearner → cE
  | .o => .inr (2, [.ref (aFinder), .ref aLearner_chosen, .ref aLearner_tried, .ref (aLearner_made), .ref (aLearner_madeFirst)])
  | .f_chosen => .inl (7, 16, .inr (.inr (.inr (.inr fun i => if i < 16 then some (eLearner_chosen i) else none))))
  | .f_tried => .inl (0, 16, .inl z.tried)
def zZScript (z : ZScript) : TZScript → cE
  | .o => .inr (9, [.ref (aScript_draft), .ref (aScript_made), .ref aScript_tasks, .ref aScript_lines, .ref aScript_ranBy, .ref aScript_runCounts, .ref (aLearner), .int z.lineCount, .int z.runCount, .int z.askedLines])
  | .f_tasks => .inl (8, 3, .inr (.inr (.inr (.inr fun i => if i < 3 then some (eScript_tasks i) else none))))
  | .f_lines => .inl (6, 8, .inr (.inr (.inr (.inr fun i => if i < 8 then some (eScript_lines i) else none))))
  | .f_ranBy => .inl (5, 30, .inr (.inr (.inr (.inr fun i => if i < 30 then some (eScript_ranBy i) else none))))
  | .f_runCounts => .inl (3, 30, .inl z.runCounts)
def mT (k : Nat) : Nat := if k = 24 ∨ k = 26 ∨ k = 28 then 3 else 0
def mN : Nat → Nat
  | 2 => 20
  | 4 => 160
  | 5 => 8
  | 6 => 8
  | 7 => 320
  | 8 => 3
  | 9 => 12
  | 10 => 240
  | 11 => 12
  | 12 => 240
  | 13 => 12
  | 14 => 3
  | 15 => 240
  | 16 => 12
  | 17 => 240
  | 18 => 12
  | 19 => 12
  | 20 => 12
  | 21 => 12
  | 22 => 12
  | 23 => 48
  | 24 => 3
  | 25 => 3
  | 26 => 3
  | 28 => 30
  | 29 => 30
  | 31 => 87
  | 32 => 87
  | 33 => 348
  | 34 => 348
  | 35 => 348
  | 36 => 348
  | 37 => 1392
  | 39 => 16
  | 41 => 20
  | 42 => 4
  | 43 => 44
  | 44 => 44
  | 46 => 140
  | 48 => 1200
  | 49 => 300
  | 51 => 16000
  | 52 => 16000
  | 53 => 4000
  | 55 => 4000
  | 58 => 4
  | 59 => 4
  | 60 => 4
  | 62 => 194481
  | 63 => 194481
  | 64 => 194481
  | 67 => 4
  | 68 => 20
  | 69 => 4
  | 70 => 5
  | 71 => 5
  | 72 => 25
  | 73 => 100
  | 74 => 5
  | 75 => 20
  | _ => 0
notation "M_thrown" => (0 : Nat)
notation "M_draftSize" => (1 : Nat)
notation "M_draft" => (2 : Nat)
notation "M_lines" => (3 : Nat)
notation "M_came" => (4 : Nat)
notation "M_cameSize" => (5 : Nat)
notation "M_steps" => (6 : Nat)
notation "M_step" => (7 : Nat)
notation "M_examples" => (8 : Nat)
notation "M_shownOn" => (9 : Nat)
notation "M_example_" => (10 : Nat)
notation "M_exampleSize" => (11 : Nat)
notation "M_shown" => (12 : Nat)
notation "M_shownSize" => (13 : Nat)
notation "M_refusals" => (14 : Nat)
notation "M_refusal" => (15 : Nat)
notation "M_refusalSize" => (16 : Nat)
notation "M_refused" => (17 : Nat)
notation "M_refusedSize" => (18 : Nat)
notation "M_pinKind" => (19 : Nat)
notation "M_pinA" => (20 : Nat)
notation "M_pinB" => (21 : Nat)
notation "M_pinC" => (22 : Nat)
notation "M_pinSign" => (23 : Nat)
notation "M_hasLearnt" => (24 : Nat)
notation "M_conditionOf" => (25 : Nat)
notation "M_isStanding" => (26 : Nat)
notation "M_runs" => (27 : Nat)
notation "M_isUndone" => (28 : Nat)
notation "M_runCondition" => (29 : Nat)
notation "M_askedLines" => (30 : Nat)
notation "M_atoms" => (31 : Nat)
notation "M_weightOf" => (32 : Nat)
notation "M_kind" => (33 : Nat)
notation "M_a" => (34 : Nat)
notation "M_b" => (35 : Nat)
notation "M_c" => (36 : Nat)
notation "M_sign" => (37 : Nat)
notation "M_counted" => (38 : Nat)
notation "M_setState" => (39 : Nat)
notation "M_size" => (40 : Nat)
notation "M_text" => (41 : Nat)
notation "M_runsOf" => (42 : Nat)
notation "M_runAt" => (43 : Nat)
notation "M_runEnd" => (44 : Nat)
notation "M_made" => (45 : Nat)
notation "M_making" => (46 : Nat)
notation "M_consts" => (47 : Nat)
notation "M_constSign" => (48 : Nat)
notation "M_constSize" => (49 : Nat)
notation "M_all" => (50 : Nat)
notation "M_match_" => (51 : Nat)
notation "M_length" => (52 : Nat)
notation "M_weight" => (53 : Nat)
notation "M_valids" => (54 : Nat)
notation "M_valid" => (55 : Nat)
notation "M_task" => (56 : Nat)
notation "M_many" => (57 : Nat)
notation "M_in_" => (58 : Nat)
notation "M_stride" => (59 : Nat)
notation "M_radix" => (60 : Nat)
notation "M_codes" => (61 : Nat)
notation "M_one" => (62 : Nat)
notation "M_two" => (63 : Nat)
notation "M_mark" => (64 : Nat)
notation "M_threes" => (65 : Nat)
notation "M_three" => (66 : Nat)
notation "M_pinned" => (67 : Nat)
notation "M_at_" => (68 : Nat)
notation "M_chosen" => (69 : Nat)
notation "M_left" => (70 : Nat)
notation "M_found" => (71 : Nat)
notation "M_foundWeight" => (72 : Nat)
notation "M_foundAtom" => (73 : Nat)
notation "M_taken" => (74 : Nat)
notation "M_other" => (75 : Nat)
def zMo (f : Nat → Int32) : cE := .inr (10, [.int (f 0), .int (f 1), .ref aModel_draft, .int (f 3), .ref aModel_came, .ref aModel_cameSize, .ref aModel_steps, .ref aModel_step, .ref aModel_examples, .ref aModel_shownOn, .ref aModel_example_, .ref aModel_exampleSize, .ref aModel_shown, .ref aModel_shownSize, .ref aModel_refusals, .ref aModel_refusal, .ref aModel_refusalSize, .ref aModel_refused, .ref aModel_refusedSize, .ref aModel_pinKind, .ref aModel_pinA, .ref aModel_pinB, .ref aModel_pinC, .ref aModel_pinSign, .ref aModel_hasLearnt, .ref aModel_conditionOf, .ref aModel_isStanding, .int (f 27), .ref aModel_isUndone, .ref aModel_runCondition, .int (f 30), .ref aModel_atoms, .ref aModel_weightOf, .ref aModel_kind, .ref aModel_a, .ref aModel_b, .ref aModel_c, .ref aModel_sign, .int (f 38), .ref aModel_setState, .int (f 40), .ref aModel_text, .ref aModel_runsOf, .ref aModel_runAt, .ref aModel_runEnd, .int (f 45), .ref aModel_making, .int (f 47), .ref aModel_constSign, .ref aModel_constSize, .int (f 50), .ref aModel_match_, .ref aModel_length, .ref aModel_weight, .int (f 54), .ref aModel_valid, .int (f 56), .int (f 57), .ref aModel_in_, .ref aModel_stride, .ref aModel_radix, .int (f 61), .ref aModel_one, .ref aModel_two, .ref aModel_mark, .int (f 65), .ref aModel_three, .ref aModel_pinned, .ref aModel_at_, .ref aModel_chosen, .ref aModel_left, .ref aModel_found, .ref aModel_foundWeight, .ref aModel_foundAtom, .ref aModel_taken, .ref aModel_other])
def zc (z : Z) : TZ → cE
  | .tx t a => zZText (z.tx a) a t
  | .pg t a => zZProg (z.pg a) a t
  | .le t a => zZLearnt (z.le a) a t
  | .ln t a => zZLine (z.ln a) a t
  | .tk t a => zZTask (z.tk a) a t
  | .bd t a => zZBoard (z.bd a) a t
  | .fi t => zZFinder z.fi t
  | .st t => zZStock z.st t
  | .lr t => zZLearner z.lr t
  | .sc t => zZScript z.sc t
  | .mo => zMo z.mi
  | .ma k => .inl (mT k, mN k, .inl (z.ma k))
  | .ml => .inl (1, 4000, .inr (.inl z.ml))
  | .out => .inl (1, 1, .inr (.inl z.out))
def shp : List TZ := [.sc .o, .tx .o 1, .tx .f_signs 1, .tx .f_placesOf 1, .tx .o 4, .tx .f_signs 4, .tx .f_placesOf 4, .sc .f_tasks, .tk .o 8, .tk .f_was 8, .tk .f_shown 8, .tk .f_lineOf 8, .tk .f_refusedOf 8, .tk .f_refused 8, .tk .f_pins 8, .le .o 15, .pg .o 16, .pg .f_atoms 16, .pg .o 18, .pg .f_atoms 18, .tk .f_best 8, .tx .o 21, .tx .f_signs 21, .tx .f_placesOf 21, .tx .o 24, .tx .f_signs 24, .tx .f_placesOf 24, .tx .o 27, .tx .f_signs 27, .tx .f_placesOf 27, .tx .o 30, .tx .f_signs 30, .tx .f_placesOf 30, .tx .o 33, .tx .f_signs 33, .tx .f_placesOf 33, .tx .o 36, .tx .f_signs 36, .tx .f_placesOf 36, .tx .o 39, .tx .f_signs 39, .tx .f_placesOf 39, .tx .o 42, .tx .f_signs 42, .tx .f_placesOf 42, .tx .o 45, .tx .f_signs 45, .tx .f_placesOf 45, .tx .o 48, .tx .f_signs 48, .tx .f_placesOf 48, .tx .o 51, .tx .f_signs 51, .tx .f_placesOf 51, .tx .o 54, .tx .f_signs 54, .tx .f_placesOf 54, .tx .o 57, .tx .f_signs 57, .tx .f_placesOf 57, .tx .o 60, .tx .f_signs 60, .tx .f_placesOf 60, .tx .o 63, .tx .f_signs 63, .tx .f_placesOf 63, .tx .o 66, .tx .f_signs 66, .tx .f_placesOf 66, .pg .o 69, .pg .f_atoms 69, .pg .o 71, .pg .f_atoms 71, .pg .o 73, .pg .f_atoms 73, .pg .o 75, .pg .f_atoms 75, .pg .o 77, .pg .f_atoms 77, .tk .o 79, .tk .f_was 79, .tk .f_shown 79, .tk .f_lineOf 79, .tk .f_refusedOf 79, .tk .f_refused 79, .tk .f_pins 79, .le .o 86, .pg .o 87, .pg .f_atoms 87, .pg .o 89, .pg .f_atoms 89, .tk .f_best 79, .tx .o 92, .tx .f_signs 92, .tx .f_placesOf 92, .tx .o 95, .tx .f_signs 95, .tx .f_placesOf 95, .tx .o 98, .tx .f_signs 98, .tx .f_placesOf 98, .tx .o 101, .tx .f_signs 101, .tx .f_placesOf 101, .tx .o 104, .tx .f_signs 104, .tx .f_placesOf 104, .tx .o 107, .tx .f_signs 107, .tx .f_placesOf 107, .tx .o 110, .tx .f_signs 110, .tx .f_placesOf 110, .tx .o 113, .tx .f_signs 113, .tx .f_placesOf 113, .tx .o 116, .tx .f_signs 116, .tx .f_placesOf 116, .tx .o 119, .tx .f_signs 119, .tx .f_placesOf 119, .tx .o 122, .tx .f_signs 122, .tx .f_placesOf 122, .tx .o 125, .tx .f_signs 125, .tx .f_placesOf 125, .tx .o 128, .tx .f_signs 128, .tx .f_placesOf 128, .tx .o 131, .tx .f_signs 131, .tx .f_placesOf 131, .tx .o 134, .tx .f_signs 134, .tx .f_placesOf 134, .tx .o 137, .tx .f_signs 137, .tx .f_placesOf 137, .pg .o 140, .pg .f_atoms 140, .pg .o 142, .pg .f_atoms 142, .pg .o 144, .pg .f_atoms 144, .pg .o 146, .pg .f_atoms 146, .pg .o 148, .pg .f_atoms 148, .tk .o 150, .tk .f_was 150, .tk .f_shown 150, .tk .f_lineOf 150, .tk .f_refusedOf 150, .tk .f_refused 150, .tk .f_pins 150, .le .o 157, .pg .o 158, .pg .f_atoms 158, .pg .o 160, .pg .f_atoms 160, .tk .f_best 150, .tx .o 163, .tx .f_signs 163, .tx .f_placesOf 163, .tx .o 166, .tx .f_signs 166, .tx .f_placesOf 166, .tx .o 169, .tx .f_signs 169, .tx .f_placesOf 169, .tx .o 172, .tx .f_signs 172, .tx .f_placesOf 172, .tx .o 175, .tx .f_signs 175, .tx .f_placesOf 175, .tx .o 178, .tx .f_signs 178, .tx .f_placesOf 178, .tx .o 181, .tx .f_signs 181, .tx .f_placesOf 181, .tx .o 184, .tx .f_signs 184, .tx .f_placesOf 184, .tx .o 187, .tx .f_signs 187, .tx .f_placesOf 187, .tx .o 190, .tx .f_signs 190, .tx .f_placesOf 190, .tx .o 193, .tx .f_signs 193, .tx .f_placesOf 193, .tx .o 196, .tx .f_signs 196, .tx .f_placesOf 196, .tx .o 199, .tx .f_signs 199, .tx .f_placesOf 199, .tx .o 202, .tx .f_signs 202, .tx .f_placesOf 202, .tx .o 205, .tx .f_signs 205, .tx .f_placesOf 205, .tx .o 208, .tx .f_signs 208, .tx .f_placesOf 208, .pg .o 211, .pg .f_atoms 211, .pg .o 213, .pg .f_atoms 213, .pg .o 215, .pg .f_atoms 215, .pg .o 217, .pg .f_atoms 217, .pg .o 219, .pg .f_atoms 219, .sc .f_lines, .ln .o 222, .tx .o 223, .tx .f_signs 223, .tx .f_placesOf 223, .tx .o 226, .tx .f_signs 226, .tx .f_placesOf 226, .ln .f_steps 222, .ln .o 230, .tx .o 231, .tx .f_signs 231, .tx .f_placesOf 231, .tx .o 234, .tx .f_signs 234, .tx .f_placesOf 234, .ln .f_steps 230, .ln .o 238, .tx .o 239, .tx .f_signs 239, .tx .f_placesOf 239, .tx .o 242, .tx .f_signs 242, .tx .f_placesOf 242, .ln .f_steps 238, .ln .o 246, .tx .o 247, .tx .f_signs 247, .tx .f_placesOf 247, .tx .o 250, .tx .f_signs 250, .tx .f_placesOf 250, .ln .f_steps 246, .ln .o 254, .tx .o 255, .tx .f_signs 255, .tx .f_placesOf 255, .tx .o 258, .tx .f_signs 258, .tx .f_placesOf 258, .ln .f_steps 254, .ln .o 262, .tx .o 263, .tx .f_signs 263, .tx .f_placesOf 263, .tx .o 266, .tx .f_signs 266, .tx .f_placesOf 266, .ln .f_steps 262, .ln .o 270, .tx .o 271, .tx .f_signs 271, .tx .f_placesOf 271, .tx .o 274, .tx .f_signs 274, .tx .f_placesOf 274, .ln .f_steps 270, .ln .o 278, .tx .o 279, .tx .f_signs 279, .tx .f_placesOf 279, .tx .o 282, .tx .f_signs 282, .tx .f_placesOf 282, .ln .f_steps 278, .sc .f_ranBy, .le .o 287, .pg .o 288, .pg .f_atoms 288, .pg .o 290, .pg .f_atoms 290, .le .o 292, .pg .o 293, .pg .f_atoms 293, .pg .o 295, .pg .f_atoms 295, .le .o 297, .pg .o 298, .pg .f_atoms 298, .pg .o 300, .pg .f_atoms 300, .le .o 302, .pg .o 303, .pg .f_atoms 303, .pg .o 305, .pg .f_atoms 305, .le .o 307, .pg .o 308, .pg .f_atoms 308, .pg .o 310, .pg .f_atoms 310, .le .o 312, .pg .o 313, .pg .f_atoms 313, .pg .o 315, .pg .f_atoms 315, .le .o 317, .pg .o 318, .pg .f_atoms 318, .pg .o 320, .pg .f_atoms 320, .le .o 322, .pg .o 323, .pg .f_atoms 323, .pg .o 325, .pg .f_atoms 325, .le .o 327, .pg .o 328, .pg .f_atoms 328, .pg .o 330, .pg .f_atoms 330, .le .o 332, .pg .o 333, .pg .f_atoms 333, .pg .o 335, .pg .f_atoms 335, .le .o 337, .pg .o 338, .pg .f_atoms 338, .pg .o 340, .pg .f_atoms 340, .le .o 342, .pg .o 343, .pg .f_atoms 343, .pg .o 345, .pg .f_atoms 345, .le .o 347, .pg .o 348, .pg .f_atoms 348, .pg .o 350, .pg .f_atoms 350, .le .o 352, .pg .o 353, .pg .f_atoms 353, .pg .o 355, .pg .f_atoms 355, .le .o 357, .pg .o 358, .pg .f_atoms 358, .pg .o 360, .pg .f_atoms 360, .le .o 362, .pg .o 363, .pg .f_atoms 363, .pg .o 365, .pg .f_atoms 365, .le .o 367, .pg .o 368, .pg .f_atoms 368, .pg .o 370, .pg .f_atoms 370, .le .o 372, .pg .o 373, .pg .f_atoms 373, .pg .o 375, .pg .f_atoms 375, .le .o 377, .pg .o 378, .pg .f_atoms 378, .pg .o 380, .pg .f_atoms 380, .le .o 382, .pg .o 383, .pg .f_atoms 383, .pg .o 385, .pg .f_atoms 385, .le .o 387, .pg .o 388, .pg .f_atoms 388, .pg .o 390, .pg .f_atoms 390, .le .o 392, .pg .o 393, .pg .f_atoms 393, .pg .o 395, .pg .f_atoms 395, .le .o 397, .pg .o 398, .pg .f_atoms 398, .pg .o 400, .pg .f_atoms 400, .le .o 402, .pg .o 403, .pg .f_atoms 403, .pg .o 405, .pg .f_atoms 405, .le .o 407, .pg .o 408, .pg .f_atoms 408, .pg .o 410, .pg .f_atoms 410, .le .o 412, .pg .o 413, .pg .f_atoms 413, .pg .o 415, .pg .f_atoms 415, .le .o 417, .pg .o 418, .pg .f_atoms 418, .pg .o 420, .pg .f_atoms 420, .le .o 422, .pg .o 423, .pg .f_atoms 423, .pg .o 425, .pg .f_atoms 425, .le .o 427, .pg .o 428, .pg .f_atoms 428, .pg .o 430, .pg .f_atoms 430, .le .o 432, .pg .o 433, .pg .f_atoms 433, .pg .o 435, .pg .f_atoms 435, .sc .f_runCounts, .lr .o, .fi .o, .fi .f_found, .st .o, .st .f_boards, .st .f_members, .st .f_atoms, .st .f_weights, .st .f_places, .st .f_sizes, .st .f_shared, .st .f_groups, .st .f_groupWeights, .st .f_newest, .st .f_older, .bd .o 453, .tx .o 454, .tx .f_signs 454, .tx .f_placesOf 454, .tx .o 457, .tx .f_signs 457, .tx .f_placesOf 457, .bd .f_spots 453, .bd .f_placesOfSign 453, .bd .f_cutPlaces 453, .bd .f_eachPlaces 453, .bd .f_eachSizes 453, .tx .o 465, .tx .f_signs 465, .tx .f_placesOf 465, .bd .o 468, .tx .o 469, .tx .f_signs 469, .tx .f_placesOf 469, .tx .o 472, .tx .f_signs 472, .tx .f_placesOf 472, .bd .f_spots 468, .bd .f_placesOfSign 468, .bd .f_cutPlaces 468, .bd .f_eachPlaces 468, .bd .f_eachSizes 468, .tx .o 480, .tx .f_signs 480, .tx .f_placesOf 480, .bd .o 483, .tx .o 484, .tx .f_signs 484, .tx .f_placesOf 484, .tx .o 487, .tx .f_signs 487, .tx .f_placesOf 487, .bd .f_spots 483, .bd .f_placesOfSign 483, .bd .f_cutPlaces 483, .bd .f_eachPlaces 483, .bd .f_eachSizes 483, .tx .o 495, .tx .f_signs 495, .tx .f_placesOf 495, .bd .o 498, .tx .o 499, .tx .f_signs 499, .tx .f_placesOf 499, .tx .o 502, .tx .f_signs 502, .tx .f_placesOf 502, .bd .f_spots 498, .bd .f_placesOfSign 498, .bd .f_cutPlaces 498, .bd .f_eachPlaces 498, .bd .f_eachSizes 498, .tx .o 510, .tx .f_signs 510, .tx .f_placesOf 510, .fi .f_pins, .fi .f_pinIndexes, .fi .f_ways, .fi .f_knownKeys, .fi .f_knownEndings, .fi .f_at_, .fi .f_row, .pg .o 520, .pg .f_atoms 520, .pg .o 522, .pg .f_atoms 522, .pg .o 524, .pg .f_atoms 524, .pg .o 526, .pg .f_atoms 526, .pg .o 528, .pg .f_atoms 528, .lr .f_chosen, .lr .f_tried, .tx .o 532, .tx .f_signs 532, .tx .f_placesOf 532, .tx .o 535, .tx .f_signs 535, .tx .f_placesOf 535, .pg .o 538, .pg .f_atoms 538, .pg .o 540, .pg .f_atoms 540, .pg .o 542, .pg .f_atoms 542, .pg .o 544, .pg .f_atoms 544, .pg .o 546, .pg .f_atoms 546, .pg .o 548, .pg .f_atoms 548, .pg .o 550, .pg .f_atoms 550, .pg .o 552, .pg .f_atoms 552, .pg .o 554, .pg .f_atoms 554, .pg .o 556, .pg .f_atoms 556, .pg .o 558, .pg .f_atoms 558, .pg .o 560, .pg .f_atoms 560, .pg .o 562, .pg .f_atoms 562, .pg .o 564, .pg .f_atoms 564, .pg .o 566, .pg .f_atoms 566, .pg .o 568, .pg .f_atoms 568, .mo, .ma 2, .ma 4, .ma 5, .ma 6, .ma 7, .ma 8, .ma 9, .ma 10, .ma 11, .ma 12, .ma 13, .ma 14, .ma 15, .ma 16, .ma 17, .ma 18, .ma 19, .ma 20, .ma 21, .ma 22, .ma 23, .ma 24, .ma 25, .ma 26, .ma 28, .ma 29, .ma 31, .ma 32, .ma 33, .ma 34, .ma 35, .ma 36, .ma 37, .ma 39, .ma 41, .ma 42, .ma 43, .ma 44, .ma 46, .ma 48, .ma 49, .ma 51, .ma 52, .ma 53, .ma 55, .ma 58, .ma 59, .ma 60, .ma 62, .ma 63, .ma 64, .ml, .ma 67, .ma 68, .ma 69, .ma 70, .ma 71, .ma 72, .ma 73, .ma 74, .ma 75, .out]
def mAdr : Nat → Nat
  | 2 => 571
  | 4 => 572
  | 5 => 573
  | 6 => 574
  | 7 => 575
  | 8 => 576
  | 9 => 577
  | 10 => 578
  | 11 => 579
  | 12 => 580
  | 13 => 581
  | 14 => 582
  | 15 => 583
  | 16 => 584
  | 17 => 585
  | 18 => 586
  | 19 => 587
  | 20 => 588
  | 21 => 589
  | 22 => 590
  | 23 => 591
  | 24 => 592
  | 25 => 593
  | 26 => 594
  | 28 => 595
  | 29 => 596
  | 31 => 597
  | 32 => 598
  | 33 => 599
  | 34 => 600
  | 35 => 601
  | 36 => 602
  | 37 => 603
  | 39 => 604
  | 41 => 605
  | 42 => 606
  | 43 => 607
  | 44 => 608
  | 46 => 609
  | 48 => 610
  | 49 => 611
  | 51 => 612
  | 52 => 613
  | 53 => 614
  | 55 => 615
  | 58 => 616
  | 59 => 617
  | 60 => 618
  | 62 => 619
  | 63 => 620
  | 64 => 621
  | 67 => 623
  | 68 => 624
  | 69 => 625
  | 70 => 626
  | 71 => 627
  | 72 => 628
  | 73 => 629
  | 74 => 630
  | 75 => 631
  | _ => 0
def adr : TZ → Nat
  | .mo => 570
  | .ml => 622
  | .ma k => mAdr k
  | .tx .o a => a
  | .tx .f_signs a => a + 1
  | .tx .f_placesOf a => a + 2
  | .pg .o a => a
  | .pg .f_atoms a => a + 1
  | .le .o a => a
  | .ln .o a => a
  | .ln .f_steps a => a + 7
  | .tk .o a => a
  | .tk .f_was a => a + 1
  | .tk .f_shown a => a + 2
  | .tk .f_lineOf a => a + 3
  | .tk .f_refusedOf a => a + 4
  | .tk .f_refused a => a + 5
  | .tk .f_pins a => a + 6
  | .tk .f_best a => a + 12
  | .bd .o a => a
  | .bd .f_spots a => a + 7
  | .bd .f_placesOfSign a => a + 8
  | .bd .f_cutPlaces a => a + 9
  | .bd .f_eachPlaces a => a + 10
  | .bd .f_eachSizes a => a + 11
  | .fi .o => 439
  | .fi .f_found => 440
  | .fi .f_pins => 513
  | .fi .f_pinIndexes => 514
  | .fi .f_ways => 515
  | .fi .f_knownKeys => 516
  | .fi .f_knownEndings => 517
  | .fi .f_at_ => 518
  | .fi .f_row => 519
  | .st .o => 441
  | .st .f_boards => 442
  | .st .f_members => 443
  | .st .f_atoms => 444
  | .st .f_weights => 445
  | .st .f_places => 446
  | .st .f_sizes => 447
  | .st .f_shared => 448
  | .st .f_groups => 449
  | .st .f_groupWeights => 450
  | .st .f_newest => 451
  | .st .f_older => 452
  | .lr .o => 438
  | .lr .f_chosen => 530
  | .lr .f_tried => 531
  | .sc .o => 0
  | .sc .f_tasks => 7
  | .sc .f_lines => 221
  | .sc .f_ranBy => 286
  | .sc .f_runCounts => 437
  | .out => 632
theorem shp_len : shp.length = 633 := by decide +kernel
theorem shp_adr : ∀ k, k < 633 → (shp[k]?).all (fun g => adr g == k) = true := by decide +kernel
theorem shp_inj {k : Nat} {g : TZ} (h : shp[k]? = some g) : adr g = k := by
  have hk : k < 633 := shp_len ▸ (List.getElem?_eq_some_iff.mp h).1
  have := shp_adr k hk
  rw [h] at this
  simpa using this
def mk (z : Z) : cM := shp.map (zc z)
theorem mk_get {z : Z} {k : Nat} {g : TZ} (h : shp[k]? = some g) : (mk z)[k]? = some (zc z g) := by
  unfold mk
  rw [List.getElem?_map, h]
  rfl
theorem mk_len (z : Z) : (mk z).length = 633 := by unfold mk; rw [List.length_map]; exact shp_len
theorem mk_set {z z' : Z} {k : Nat} {g : TZ} {e : cE} (h : shp[k]? = some g) (h1 : ∀ g', g' ≠ g → zc z' g' = zc z g') (h2 : zc z' g = e) : (mk z).set k e = mk z' := by
  apply List.ext_getElem?
  intro j
  unfold mk
  rw [List.getElem?_set, List.length_map, List.getElem?_map, List.getElem?_map]
  by_cases hj : k = j
  · subst hj
    rw [if_pos rfl, if_pos (List.getElem?_eq_some_iff.mp h).1, h]
    simp [h2]
  · rw [if_neg hj]
    cases hg : shp[j]? with
    | none => rfl
    | some g' =>
      have hne : g' ≠ g := fun q => hj (by rw [← shp_inj h, ← shp_inj hg, q])
      simp [h1 g' hne]
