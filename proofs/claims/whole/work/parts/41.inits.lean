/-! CONSTRUCTORS AS PURE FUNCTIONS, AND THEIR CONTRACTS (laid by wip/whole/tools/gen_init.py) -/
def b_X10_init_0 (F : Nat) : Nat → cM → Option (cM) := fun x0 M =>
  if true = true ∧ ¬ (20 : Int32) < 0 ∧ (20 : Int32).toNatClampNeg ≤ 1000000 then (
  let v1 : Nat := M.length
  let M2 : cM := M ++ [.inl (2, (20 : Int32).toNatClampNeg, .inl (fun _ => 0))]
  (pF M2 x0 8 0 (.ref v1)).bind fun M3 =>
  if true = true ∧ ¬ (4 : Int32) < 0 ∧ (4 : Int32).toNatClampNeg ≤ 1000000 then (
  let v4 : Nat := M3.length
  let M5 : cM := M3 ++ [.inl (0, (4 : Int32).toNatClampNeg, .inl (fun _ => 0))]
  (pF M5 x0 8 1 (.ref v4)).bind fun M6 =>
  some M6)
  else none)
  else none
def f_X10_init_0 (F : Nat) : Nat → cM → Option (cM) := fun x0 M => b_X10_init_0 F x0 M
def f_X10_init (F : Nat) : Nat → cM → Option cM := fun a0 M => f_X10_init_0 F a0 M
def b_X1_init_43 (F : Nat) : Nat → cM → Option (cM) := fun x0 M =>
  if true = true ∧ ¬ (1764 : Int32) < 0 ∧ (1764 : Int32).toNatClampNeg ≤ 1000000 then (
  let v1 : Nat := M.length
  let M2 : cM := M ++ [.inl (0, (1764 : Int32).toNatClampNeg, .inl (fun _ => 0))]
  (pF M2 x0 0 4 (.ref v1)).bind fun M3 =>
  if true = true ∧ ¬ (72 : Int32) < 0 ∧ (72 : Int32).toNatClampNeg ≤ 1000000 then (
  let v4 : Nat := M3.length
  let M5 : cM := M3 ++ [.inl (0, (72 : Int32).toNatClampNeg, .inl (fun _ => 0))]
  (pF M5 x0 0 5 (.ref v4)).bind fun M6 =>
  if true = true ∧ ¬ (72 : Int32) < 0 ∧ (72 : Int32).toNatClampNeg ≤ 1000000 then (
  let v7 : Nat := M6.length
  let M8 : cM := M6 ++ [.inl (0, (72 : Int32).toNatClampNeg, .inl (fun _ => 0))]
  (pF M8 x0 0 6 (.ref v7)).bind fun M9 =>
  let v10 : Nat := M9.length
  let M11 : cM := M9 ++ [.inr (8, [.null, .null, .int 0])]
  (f_X10_init F v10 M11).bind fun M12 =>
  ckm M11 M12 (
  (pF M12 x0 0 7 (.ref v10)).bind fun M13 =>
  some M13))
  else none)
  else none)
  else none
def f_X1_init_43 (F : Nat) : Nat → cM → Option (cM) := fun x0 M => b_X1_init_43 F x0 M
def b_X1_init_0 (F : Nat) (t43 : Nat → cM → Option (cM)) : Nat → cM → Option (cM) := fun x0 M =>
  let v1 : Nat := M.length
  let M2 : cM := M ++ [.inr (8, [.null, .null, .int 0])]
  (f_X10_init F v1 M2).bind fun M3 =>
  ckm M2 M3 (
  (pF M3 x0 0 0 (.ref v1)).bind fun M4 =>
  let v5 : Nat := M4.length
  let M6 : cM := M4 ++ [.inr (8, [.null, .null, .int 0])]
  (f_X10_init F v5 M6).bind fun M7 =>
  ckm M6 M7 (
  (pF M7 x0 0 1 (.ref v5)).bind fun M8 =>
  if true = true ∧ ¬ (30 : Int32) < 0 ∧ (30 : Int32).toNatClampNeg ≤ 1000000 then (
  let v9 : Nat := M8.length
  let M10 : cM := M8 ++ [.inl (0, (30 : Int32).toNatClampNeg, .inl (fun _ => 0))]
  (pF M10 x0 0 2 (.ref v9)).bind fun M11 =>
  if true = true ∧ ¬ (128 : Int32) < 0 ∧ (128 : Int32).toNatClampNeg ≤ 1000000 then (
  let v12 : Nat := M11.length
  let M13 : cM := M11 ++ [.inl (0, (128 : Int32).toNatClampNeg, .inl (fun _ => 0))]
  (pF M13 x0 0 3 (.ref v12)).bind fun M14 =>
  t43 x0 M14)
  else none)
  else none))
def f_X1_init_0 (F : Nat) : Nat → cM → Option (cM) := fun x0 M => b_X1_init_0 F (f_X1_init_43 F) x0 M
def f_X1_init (F : Nat) : Nat → cM → Option cM := fun a0 M => f_X1_init_0 F a0 M
def b_X8_init_101 (F : Nat) (t101 : Nat → Int32 → cM → Option (cM)) : Nat → Int32 → cM → Option (cM) := fun x0 x1 M =>
  if (4 : Int32) ≤ x1 then (
  some M)
  else (
  (fR M x0 6 0).bind fun v1 =>
  let v2 : Nat := M.length
  let M3 : cM := M ++ [.inr (0, [.null, .null, .null, .null, .null, .null, .null, .null])]
  (f_X1_init F v2 M3).bind fun M4 =>
  ckm M3 M4 (
  (sR M4 v1 x1 v2).bind fun M5 =>
  (fR M5 x0 6 1).bind fun v6 =>
  (fR M5 x0 6 0).bind fun v7 =>
  (aR M5 v7 x1).bind fun v8 =>
  (sR M5 v6 x1 v8).bind fun M9 =>
  t101 x0 (x1 + (1 : Int32)) M9))
def f_X8_init_101 (F : Nat) : Nat → Nat → Int32 → cM → Option (cM) := fun n => Nat.rec (fun _ _ _ => none) (fun _ ih x0 x1 M => b_X8_init_101 F (ih) x0 x1 M) n
def b_X8_init_47 (F : Nat) (t101 : Nat → Int32 → cM → Option (cM)) : Nat → cM → Option (cM) := fun x0 M =>
  if true = true ∧ ¬ (7248 : Int32) < 0 ∧ (7248 : Int32).toNatClampNeg ≤ 1000000 then (
  let v1 : Nat := M.length
  let M2 : cM := M ++ [.inl (0, (7248 : Int32).toNatClampNeg, .inl (fun _ => 0))]
  (pF M2 x0 6 6 (.ref v1)).bind fun M3 =>
  if true = true ∧ ¬ (84 : Int32) < 0 ∧ (84 : Int32).toNatClampNeg ≤ 1000000 then (
  let v4 : Nat := M3.length
  let M5 : cM := M3 ++ [.inl (0, (84 : Int32).toNatClampNeg, .inl (fun _ => 0))]
  (pF M5 x0 6 8 (.ref v4)).bind fun M6 =>
  if true = true ∧ ¬ (1812 : Int32) < 0 ∧ (1812 : Int32).toNatClampNeg ≤ 1000000 then (
  let v7 : Nat := M6.length
  let M8 : cM := M6 ++ [.inl (0, (1812 : Int32).toNatClampNeg, .inl (fun _ => 0))]
  (pF M8 x0 6 9 (.ref v7)).bind fun M9 =>
  if true = true ∧ ¬ (1812 : Int32) < 0 ∧ (1812 : Int32).toNatClampNeg ≤ 1000000 then (
  let v10 : Nat := M9.length
  let M11 : cM := M9 ++ [.inl (0, (1812 : Int32).toNatClampNeg, .inl (fun _ => 0))]
  (pF M11 x0 6 10 (.ref v10)).bind fun M12 =>
  if true = true ∧ ¬ (21 : Int32) < 0 ∧ (21 : Int32).toNatClampNeg ≤ 1000000 then (
  let v13 : Nat := M12.length
  let M14 : cM := M12 ++ [.inl (0, (21 : Int32).toNatClampNeg, .inl (fun _ => 0))]
  (pF M14 x0 6 12 (.ref v13)).bind fun M15 =>
  if true = true ∧ ¬ (1812 : Int32) < 0 ∧ (1812 : Int32).toNatClampNeg ≤ 1000000 then (
  let v16 : Nat := M15.length
  let M17 : cM := M15 ++ [.inl (0, (1812 : Int32).toNatClampNeg, .inl (fun _ => 0))]
  (pF M17 x0 6 13 (.ref v16)).bind fun M18 =>
  t101 x0 (0 : Int32) M18)
  else none)
  else none)
  else none)
  else none)
  else none)
  else none
def f_X8_init_47 (F : Nat) : Nat → cM → Option (cM) := fun x0 M => b_X8_init_47 F (f_X8_init_101 F F) x0 M
def b_X8_init_0 (F : Nat) (t47 : Nat → cM → Option (cM)) : Nat → cM → Option (cM) := fun x0 M =>
  if true = true ∧ ¬ (4 : Int32) < 0 ∧ (4 : Int32).toNatClampNeg ≤ 1000000 then (
  let v1 : Nat := M.length
  let M2 : cM := M ++ [.inl (4, (4 : Int32).toNatClampNeg, .inr (.inr (.inr (.inr (fun _ => none)))))]
  (pF M2 x0 6 0 (.ref v1)).bind fun M3 =>
  if true = true ∧ ¬ (4 : Int32) < 0 ∧ (4 : Int32).toNatClampNeg ≤ 1000000 then (
  let v4 : Nat := M3.length
  let M5 : cM := M3 ++ [.inl (4, (4 : Int32).toNatClampNeg, .inr (.inr (.inr (.inr (fun _ => none)))))]
  (pF M5 x0 6 1 (.ref v4)).bind fun M6 =>
  if true = true ∧ ¬ (1812 : Int32) < 0 ∧ (1812 : Int32).toNatClampNeg ≤ 1000000 then (
  let v7 : Nat := M6.length
  let M8 : cM := M6 ++ [.inl (0, (1812 : Int32).toNatClampNeg, .inl (fun _ => 0))]
  (pF M8 x0 6 3 (.ref v7)).bind fun M9 =>
  if true = true ∧ ¬ (1812 : Int32) < 0 ∧ (1812 : Int32).toNatClampNeg ≤ 1000000 then (
  let v10 : Nat := M9.length
  let M11 : cM := M9 ++ [.inl (0, (1812 : Int32).toNatClampNeg, .inl (fun _ => 0))]
  (pF M11 x0 6 4 (.ref v10)).bind fun M12 =>
  if true = true ∧ ¬ (7248 : Int32) < 0 ∧ (7248 : Int32).toNatClampNeg ≤ 1000000 then (
  let v13 : Nat := M12.length
  let M14 : cM := M12 ++ [.inl (0, (7248 : Int32).toNatClampNeg, .inl (fun _ => 0))]
  (pF M14 x0 6 5 (.ref v13)).bind fun M15 =>
  t47 x0 M15)
  else none)
  else none)
  else none)
  else none)
  else none
def f_X8_init_0 (F : Nat) : Nat → cM → Option (cM) := fun x0 M => b_X8_init_0 F (f_X8_init_47 F) x0 M
def f_X8_init (F : Nat) : Nat → cM → Option cM := fun a0 M => f_X8_init_0 F a0 M
def b_X6_init_0 (F : Nat) : Nat → cM → Option (cM) := fun x0 M =>
  if true = true ∧ ¬ (4 : Int32) < 0 ∧ (4 : Int32).toNatClampNeg ≤ 1000000 then (
  let v1 : Nat := M.length
  let M2 : cM := M ++ [.inl (0, (4 : Int32).toNatClampNeg, .inl (fun _ => 0))]
  (pF M2 x0 5 0 (.ref v1)).bind fun M3 =>
  some M3)
  else none
def f_X6_init_0 (F : Nat) : Nat → cM → Option (cM) := fun x0 M => b_X6_init_0 F x0 M
def f_X6_init (F : Nat) : Nat → cM → Option cM := fun a0 M => f_X6_init_0 F a0 M
def b_X2_init_81 (F : Nat) (t81 : Nat → Int32 → cM → Option (cM)) : Nat → Int32 → cM → Option (cM) := fun x0 x1 M =>
  if (5 : Int32) ≤ x1 then (
  some M)
  else (
  (fR M x0 1 0).bind fun v1 =>
  let v2 : Nat := M.length
  let M3 : cM := M ++ [.inr (5, [.null, .int 0])]
  (f_X6_init F v2 M3).bind fun M4 =>
  ckm M3 M4 (
  (sR M4 v1 x1 v2).bind fun M5 =>
  t81 x0 (x1 + (1 : Int32)) M5))
def f_X2_init_81 (F : Nat) : Nat → Nat → Int32 → cM → Option (cM) := fun n => Nat.rec (fun _ _ _ => none) (fun _ ih x0 x1 M => b_X2_init_81 F (ih) x0 x1 M) n
def b_X2_init_37 (F : Nat) (t81 : Nat → Int32 → cM → Option (cM)) : Nat → cM → Option (cM) := fun x0 M =>
  if true = true ∧ ¬ (924 : Int32) < 0 ∧ (924 : Int32).toNatClampNeg ≤ 1000000 then (
  let v1 : Nat := M.length
  let M2 : cM := M ++ [.inl (1, (924 : Int32).toNatClampNeg, .inr (.inl (fun _ => 0)))]
  (pF M2 x0 1 8 (.ref v1)).bind fun M3 =>
  if true = true ∧ ¬ (2048 : Int32) < 0 ∧ (2048 : Int32).toNatClampNeg ≤ 1000000 then (
  let v4 : Nat := M3.length
  let M5 : cM := M3 ++ [.inl (1, (2048 : Int32).toNatClampNeg, .inr (.inl (fun _ => 0)))]
  (pF M5 x0 1 9 (.ref v4)).bind fun M6 =>
  if true = true ∧ ¬ (2048 : Int32) < 0 ∧ (2048 : Int32).toNatClampNeg ≤ 1000000 then (
  let v7 : Nat := M6.length
  let M8 : cM := M6 ++ [.inl (1, (2048 : Int32).toNatClampNeg, .inr (.inl (fun _ => 0)))]
  (pF M8 x0 1 10 (.ref v7)).bind fun M9 =>
  if true = true ∧ ¬ (20 : Int32) < 0 ∧ (20 : Int32).toNatClampNeg ≤ 1000000 then (
  let v10 : Nat := M9.length
  let M11 : cM := M9 ++ [.inl (0, (20 : Int32).toNatClampNeg, .inl (fun _ => 0))]
  (pF M11 x0 1 12 (.ref v10)).bind fun M12 =>
  if true = true ∧ ¬ (4 : Int32) < 0 ∧ (4 : Int32).toNatClampNeg ≤ 1000000 then (
  let v13 : Nat := M12.length
  let M14 : cM := M12 ++ [.inl (0, (4 : Int32).toNatClampNeg, .inl (fun _ => 0))]
  (pF M14 x0 1 13 (.ref v13)).bind fun M15 =>
  t81 x0 (0 : Int32) M15)
  else none)
  else none)
  else none)
  else none)
  else none
def f_X2_init_37 (F : Nat) : Nat → cM → Option (cM) := fun x0 M => b_X2_init_37 F (f_X2_init_81 F F) x0 M
def b_X2_init_0 (F : Nat) (t37 : Nat → cM → Option (cM)) : Nat → cM → Option (cM) := fun x0 M =>
  if true = true ∧ ¬ (5 : Int32) < 0 ∧ (5 : Int32).toNatClampNeg ≤ 1000000 then (
  let v1 : Nat := M.length
  let M2 : cM := M ++ [.inl (7, (5 : Int32).toNatClampNeg, .inr (.inr (.inr (.inr (fun _ => none)))))]
  (pF M2 x0 1 0 (.ref v1)).bind fun M3 =>
  let v4 : Nat := M3.length
  let M5 : cM := M3 ++ [.inr (6, [.null, .null, .int 0, .null, .null, .null, .null, .int 0, .null, .null, .null, .int 0, .null, .null])]
  (f_X8_init F v4 M5).bind fun M6 =>
  ckm M5 M6 (
  (pF M6 x0 1 2 (.ref v4)).bind fun M7 =>
  if true = true ∧ ¬ (4 : Int32) < 0 ∧ (4 : Int32).toNatClampNeg ≤ 1000000 then (
  let v8 : Nat := M7.length
  let M9 : cM := M7 ++ [.inl (0, (4 : Int32).toNatClampNeg, .inl (fun _ => 0))]
  (pF M9 x0 1 5 (.ref v8)).bind fun M10 =>
  if true = true ∧ ¬ (4 : Int32) < 0 ∧ (4 : Int32).toNatClampNeg ≤ 1000000 then (
  let v11 : Nat := M10.length
  let M12 : cM := M10 ++ [.inl (0, (4 : Int32).toNatClampNeg, .inl (fun _ => 0))]
  (pF M12 x0 1 6 (.ref v11)).bind fun M13 =>
  t37 x0 M13)
  else none)
  else none))
  else none
def f_X2_init_0 (F : Nat) : Nat → cM → Option (cM) := fun x0 M => b_X2_init_0 F (f_X2_init_37 F) x0 M
def f_X2_init (F : Nat) : Nat → cM → Option cM := fun a0 M => f_X2_init_0 F a0 M
def b_X3_init_56 (F : Nat) (t56 : Nat → Int32 → cM → Option (cM)) : Nat → Int32 → cM → Option (cM) := fun x0 x1 M =>
  if (16 : Int32) ≤ x1 then (
  some M)
  else (
  (fR M x0 2 1).bind fun v1 =>
  let v2 : Nat := M.length
  let M3 : cM := M ++ [.inr (5, [.null, .int 0])]
  (f_X6_init F v2 M3).bind fun M4 =>
  ckm M3 M4 (
  (sR M4 v1 x1 v2).bind fun M5 =>
  t56 x0 (x1 + (1 : Int32)) M5))
def f_X3_init_56 (F : Nat) : Nat → Nat → Int32 → cM → Option (cM) := fun n => Nat.rec (fun _ _ _ => none) (fun _ ih x0 x1 M => b_X3_init_56 F (ih) x0 x1 M) n
def b_X3_init_24 (F : Nat) (t56 : Nat → Int32 → cM → Option (cM)) : Nat → cM → Option (cM) := fun x0 M =>
  if true = true ∧ ¬ (16 : Int32) < 0 ∧ (16 : Int32).toNatClampNeg ≤ 1000000 then (
  let v1 : Nat := M.length
  let M2 : cM := M ++ [.inl (0, (16 : Int32).toNatClampNeg, .inl (fun _ => 0))]
  (pF M2 x0 2 2 (.ref v1)).bind fun M3 =>
  let v4 : Nat := M3.length
  let M5 : cM := M3 ++ [.inr (8, [.null, .null, .int 0])]
  (f_X10_init F v4 M5).bind fun M6 =>
  ckm M5 M6 (
  (pF M6 x0 2 3 (.ref v4)).bind fun M7 =>
  let v8 : Nat := M7.length
  let M9 : cM := M7 ++ [.inr (8, [.null, .null, .int 0])]
  (f_X10_init F v8 M9).bind fun M10 =>
  ckm M9 M10 (
  (pF M10 x0 2 4 (.ref v8)).bind fun M11 =>
  t56 x0 (0 : Int32) M11)))
  else none
def f_X3_init_24 (F : Nat) : Nat → cM → Option (cM) := fun x0 M => b_X3_init_24 F (f_X3_init_56 F F) x0 M
def b_X3_init_0 (F : Nat) (t24 : Nat → cM → Option (cM)) : Nat → cM → Option (cM) := fun x0 M =>
  let v1 : Nat := M.length
  let M2 : cM := M ++ [.inr (1, [.null, .int 0, .null, .null, .int 0, .null, .null, .int 0, .null, .null, .null, .long 0, .null, .null])]
  (f_X2_init F v1 M2).bind fun M3 =>
  ckm M2 M3 (
  (pF M3 x0 2 0 (.ref v1)).bind fun M4 =>
  if true = true ∧ ¬ (16 : Int32) < 0 ∧ (16 : Int32).toNatClampNeg ≤ 1000000 then (
  let v5 : Nat := M4.length
  let M6 : cM := M4 ++ [.inl (7, (16 : Int32).toNatClampNeg, .inr (.inr (.inr (.inr (fun _ => none)))))]
  (pF M6 x0 2 1 (.ref v5)).bind fun M7 =>
  t24 x0 M7)
  else none)
def f_X3_init_0 (F : Nat) : Nat → cM → Option (cM) := fun x0 M => b_X3_init_0 F (f_X3_init_24 F) x0 M
def f_X3_init (F : Nat) : Nat → cM → Option cM := fun a0 M => f_X3_init_0 F a0 M
def b_X4_init_0 (F : Nat) : Nat → cM → Option (cM) := fun x0 M =>
  let v1 : Nat := M.length
  let M2 : cM := M ++ [.inr (5, [.null, .int 0])]
  (f_X6_init F v1 M2).bind fun M3 =>
  ckm M2 M3 (
  (pF M3 x0 3 0 (.ref v1)).bind fun M4 =>
  let v5 : Nat := M4.length
  let M6 : cM := M4 ++ [.inr (5, [.null, .int 0])]
  (f_X6_init F v5 M6).bind fun M7 =>
  ckm M6 M7 (
  (pF M7 x0 3 1 (.ref v5)).bind fun M8 =>
  (pF M8 x0 3 3 (.int (-1 : Int32))).bind fun M9 =>
  some M9))
def f_X4_init_0 (F : Nat) : Nat → cM → Option (cM) := fun x0 M => b_X4_init_0 F x0 M
def f_X4_init (F : Nat) : Nat → cM → Option cM := fun a0 M => f_X4_init_0 F a0 M
def b_X5_init_0 (F : Nat) : Nat → cM → Option (cM) := fun x0 M =>
  let v1 : Nat := M.length
  let M2 : cM := M ++ [.inr (8, [.null, .null, .int 0])]
  (f_X10_init F v1 M2).bind fun M3 =>
  ckm M2 M3 (
  (pF M3 x0 4 0 (.ref v1)).bind fun M4 =>
  let v5 : Nat := M4.length
  let M6 : cM := M4 ++ [.inr (8, [.null, .null, .int 0])]
  (f_X10_init F v5 M6).bind fun M7 =>
  ckm M6 M7 (
  (pF M7 x0 4 1 (.ref v5)).bind fun M8 =>
  if true = true ∧ ¬ (33 : Int32) < 0 ∧ (33 : Int32).toNatClampNeg ≤ 1000000 then (
  let v9 : Nat := M8.length
  let M10 : cM := M8 ++ [.inl (0, (33 : Int32).toNatClampNeg, .inl (fun _ => 0))]
  (pF M10 x0 4 2 (.ref v9)).bind fun M11 =>
  some M11)
  else none))
def f_X5_init_0 (F : Nat) : Nat → cM → Option (cM) := fun x0 M => b_X5_init_0 F x0 M
def f_X5_init (F : Nat) : Nat → cM → Option cM := fun a0 M => f_X5_init_0 F a0 M
def b_X9_init_156 (F : Nat) (t156 : Nat → Int32 → cM → Option (cM)) : Nat → Int32 → cM → Option (cM) := fun x0 x1 M =>
  if (5 : Int32) ≤ x1 then (
  some M)
  else (
  (fR M x0 7 10).bind fun v1 =>
  let v2 : Nat := M.length
  let M3 : cM := M ++ [.inr (5, [.null, .int 0])]
  (f_X6_init F v2 M3).bind fun M4 =>
  ckm M3 M4 (
  (sR M4 v1 x1 v2).bind fun M5 =>
  t156 x0 (x1 + (1 : Int32)) M5))
def f_X9_init_156 (F : Nat) : Nat → Nat → Int32 → cM → Option (cM) := fun n => Nat.rec (fun _ _ _ => none) (fun _ ih x0 x1 M => b_X9_init_156 F (ih) x0 x1 M) n
def b_X9_init_136 (F : Nat) (t136 : Nat → Int32 → cM → Option (cM)) (t156 : Nat → Int32 → cM → Option (cM)) : Nat → Int32 → cM → Option (cM) := fun x0 x1 M =>
  if (4 : Int32) ≤ x1 then (
  t156 x0 (0 : Int32) M)
  else (
  (fR M x0 7 7).bind fun v1 =>
  (sI 0 M v1 x1 (-1 : Int32)).bind fun M2 =>
  t136 x0 (x1 + (1 : Int32)) M2)
def f_X9_init_136 (F : Nat) : Nat → Nat → Int32 → cM → Option (cM) := fun n => Nat.rec (fun _ _ _ => none) (fun _ ih x0 x1 M => b_X9_init_136 F (ih) (f_X9_init_156 F F) x0 x1 M) n
def b_X9_init_102 (F : Nat) (t71 : Nat → Int32 → cM → Option (cM)) : Nat → Int32 → cM → Option (cM) := fun x0 x1 M =>
  (fR M x0 7 4).bind fun v1 =>
  let v2 : Nat := M.length
  let M3 : cM := M ++ [.inr (8, [.null, .null, .int 0])]
  (f_X10_init F v2 M3).bind fun M4 =>
  ckm M3 M4 (
  (sR M4 v1 x1 v2).bind fun M5 =>
  (fR M5 x0 7 5).bind fun v6 =>
  let v7 : Nat := M5.length
  let M8 : cM := M5 ++ [.inr (8, [.null, .null, .int 0])]
  (f_X10_init F v7 M8).bind fun M9 =>
  ckm M8 M9 (
  (sR M9 v6 x1 v7).bind fun M10 =>
  t71 x0 (x1 + (1 : Int32)) M10))
def f_X9_init_102 (F : Nat) (k71 : Nat → Int32 → cM → Option (cM)) : Nat → Int32 → cM → Option (cM) := fun x0 x1 M => b_X9_init_102 F (k71) x0 x1 M
def b_X9_init_71 (F : Nat) (t102 : Nat → Int32 → cM → Option (cM)) (t136 : Nat → Int32 → cM → Option (cM)) : Nat → Int32 → cM → Option (cM) := fun x0 x1 M =>
  if (4 : Int32) ≤ x1 then (
  t136 x0 (0 : Int32) M)
  else (
  (fR M x0 7 0).bind fun v1 =>
  let v2 : Nat := M.length
  let M3 : cM := M ++ [.inr (8, [.null, .null, .int 0])]
  (f_X10_init F v2 M3).bind fun M4 =>
  ckm M3 M4 (
  (sR M4 v1 x1 v2).bind fun M5 =>
  (fR M5 x0 7 1).bind fun v6 =>
  let v7 : Nat := M5.length
  let M8 : cM := M5 ++ [.inr (8, [.null, .null, .int 0])]
  (f_X10_init F v7 M8).bind fun M9 =>
  ckm M8 M9 (
  (sR M9 v6 x1 v7).bind fun M10 =>
  t102 x0 x1 M10)))
def f_X9_init_71 (F : Nat) : Nat → Nat → Int32 → cM → Option (cM) := fun n => Nat.rec (fun _ _ _ => none) (fun _ ih x0 x1 M => b_X9_init_71 F (f_X9_init_102 F ih) (f_X9_init_136 F F) x0 x1 M) n
def b_X9_init_35 (F : Nat) (t71 : Nat → Int32 → cM → Option (cM)) : Nat → cM → Option (cM) := fun x0 M =>
  if true = true ∧ ¬ (4 : Int32) < 0 ∧ (4 : Int32).toNatClampNeg ≤ 1000000 then (
  let v1 : Nat := M.length
  let M2 : cM := M ++ [.inl (9, (4 : Int32).toNatClampNeg, .inr (.inr (.inr (.inr (fun _ => none)))))]
  (pF M2 x0 7 5 (.ref v1)).bind fun M3 =>
  if true = true ∧ ¬ (4 : Int32) < 0 ∧ (4 : Int32).toNatClampNeg ≤ 1000000 then (
  let v4 : Nat := M3.length
  let M5 : cM := M3 ++ [.inl (0, (4 : Int32).toNatClampNeg, .inl (fun _ => 0))]
  (pF M5 x0 7 7 (.ref v4)).bind fun M6 =>
  let v7 : Nat := M6.length
  let M8 : cM := M6 ++ [.inr (3, [.null, .null, .int 0, .int 0])]
  (f_X4_init F v7 M8).bind fun M9 =>
  ckm M8 M9 (
  (pF M9 x0 7 8 (.ref v7)).bind fun M10 =>
  if true = true ∧ ¬ (5 : Int32) < 0 ∧ (5 : Int32).toNatClampNeg ≤ 1000000 then (
  let v11 : Nat := M10.length
  let M12 : cM := M10 ++ [.inl (7, (5 : Int32).toNatClampNeg, .inr (.inr (.inr (.inr (fun _ => none)))))]
  (pF M12 x0 7 10 (.ref v11)).bind fun M13 =>
  t71 x0 (0 : Int32) M13)
  else none))
  else none)
  else none
def f_X9_init_35 (F : Nat) : Nat → cM → Option (cM) := fun x0 M => b_X9_init_35 F (f_X9_init_71 F F) x0 M
def b_X9_init_0 (F : Nat) (t35 : Nat → cM → Option (cM)) : Nat → cM → Option (cM) := fun x0 M =>
  if true = true ∧ ¬ (4 : Int32) < 0 ∧ (4 : Int32).toNatClampNeg ≤ 1000000 then (
  let v1 : Nat := M.length
  let M2 : cM := M ++ [.inl (9, (4 : Int32).toNatClampNeg, .inr (.inr (.inr (.inr (fun _ => none)))))]
  (pF M2 x0 7 0 (.ref v1)).bind fun M3 =>
  if true = true ∧ ¬ (4 : Int32) < 0 ∧ (4 : Int32).toNatClampNeg ≤ 1000000 then (
  let v4 : Nat := M3.length
  let M5 : cM := M3 ++ [.inl (9, (4 : Int32).toNatClampNeg, .inr (.inr (.inr (.inr (fun _ => none)))))]
  (pF M5 x0 7 1 (.ref v4)).bind fun M6 =>
  if true = true ∧ ¬ (4 : Int32) < 0 ∧ (4 : Int32).toNatClampNeg ≤ 1000000 then (
  let v7 : Nat := M6.length
  let M8 : cM := M6 ++ [.inl (0, (4 : Int32).toNatClampNeg, .inl (fun _ => 0))]
  (pF M8 x0 7 2 (.ref v7)).bind fun M9 =>
  if true = true ∧ ¬ (4 : Int32) < 0 ∧ (4 : Int32).toNatClampNeg ≤ 1000000 then (
  let v10 : Nat := M9.length
  let M11 : cM := M9 ++ [.inl (9, (4 : Int32).toNatClampNeg, .inr (.inr (.inr (.inr (fun _ => none)))))]
  (pF M11 x0 7 4 (.ref v10)).bind fun M12 =>
  t35 x0 M12)
  else none)
  else none)
  else none)
  else none
def f_X9_init_0 (F : Nat) : Nat → cM → Option (cM) := fun x0 M => b_X9_init_0 F (f_X9_init_35 F) x0 M
def f_X9_init (F : Nat) : Nat → cM → Option cM := fun a0 M => f_X9_init_0 F a0 M
def b_X11_init_107 (F : Nat) (t107 : Nat → Int32 → cM → Option (cM)) : Nat → Int32 → cM → Option (cM) := fun x0 x1 M =>
  if (30 : Int32) ≤ x1 then (
  if true = true ∧ ¬ (30 : Int32) < 0 ∧ (30 : Int32).toNatClampNeg ≤ 1000000 then (
  let v1 : Nat := M.length
  let M2 : cM := M ++ [.inl (3, (30 : Int32).toNatClampNeg, .inl (fun _ => 0))]
  (pF M2 x0 9 5 (.ref v1)).bind fun M3 =>
  let v4 : Nat := M3.length
  let M5 : cM := M3 ++ [.inr (2, [.null, .null, .null, .null, .null])]
  (f_X3_init F v4 M5).bind fun M6 =>
  ckm M5 M6 (
  (pF M6 x0 9 6 (.ref v4)).bind fun M7 =>
  some M7))
  else none)
  else (
  (fR M x0 9 4).bind fun v8 =>
  let v9 : Nat := M.length
  let M10 : cM := M ++ [.inr (3, [.null, .null, .int 0, .int 0])]
  (f_X4_init F v9 M10).bind fun M11 =>
  ckm M10 M11 (
  (sR M11 v8 x1 v9).bind fun M12 =>
  t107 x0 (x1 + (1 : Int32)) M12))
def f_X11_init_107 (F : Nat) : Nat → Nat → Int32 → cM → Option (cM) := fun n => Nat.rec (fun _ _ _ => none) (fun _ ih x0 x1 M => b_X11_init_107 F (ih) x0 x1 M) n
def b_X11_init_71 (F : Nat) (t71 : Nat → Int32 → cM → Option (cM)) (t107 : Nat → Int32 → cM → Option (cM)) : Nat → Int32 → cM → Option (cM) := fun x0 x1 M =>
  if (8 : Int32) ≤ x1 then (
  if true = true ∧ ¬ (30 : Int32) < 0 ∧ (30 : Int32).toNatClampNeg ≤ 1000000 then (
  let v1 : Nat := M.length
  let M2 : cM := M ++ [.inl (5, (30 : Int32).toNatClampNeg, .inr (.inr (.inr (.inr (fun _ => none)))))]
  (pF M2 x0 9 4 (.ref v1)).bind fun M3 =>
  t107 x0 (0 : Int32) M3)
  else none)
  else (
  (fR M x0 9 3).bind fun v4 =>
  let v5 : Nat := M.length
  let M6 : cM := M ++ [.inr (4, [.null, .null, .null, .int 0])]
  (f_X5_init F v5 M6).bind fun M7 =>
  ckm M6 M7 (
  (sR M7 v4 x1 v5).bind fun M8 =>
  t71 x0 (x1 + (1 : Int32)) M8))
def f_X11_init_71 (F : Nat) : Nat → Nat → Int32 → cM → Option (cM) := fun n => Nat.rec (fun _ _ _ => none) (fun _ ih x0 x1 M => b_X11_init_71 F (ih) (f_X11_init_107 F F) x0 x1 M) n
def b_X11_init_36 (F : Nat) (t36 : Nat → Int32 → cM → Option (cM)) (t71 : Nat → Int32 → cM → Option (cM)) : Nat → Int32 → cM → Option (cM) := fun x0 x1 M =>
  if (3 : Int32) ≤ x1 then (
  if true = true ∧ ¬ (8 : Int32) < 0 ∧ (8 : Int32).toNatClampNeg ≤ 1000000 then (
  let v1 : Nat := M.length
  let M2 : cM := M ++ [.inl (6, (8 : Int32).toNatClampNeg, .inr (.inr (.inr (.inr (fun _ => none)))))]
  (pF M2 x0 9 3 (.ref v1)).bind fun M3 =>
  t71 x0 (0 : Int32) M3)
  else none)
  else (
  (fR M x0 9 2).bind fun v4 =>
  let v5 : Nat := M.length
  let M6 : cM := M ++ [.inr (7, [.null, .null, .null, .int 0, .null, .null, .int 0, .null, .null, .int 0, .null, .int 0, .int 0])]
  (f_X9_init F v5 M6).bind fun M7 =>
  ckm M6 M7 (
  (sR M7 v4 x1 v5).bind fun M8 =>
  t36 x0 (x1 + (1 : Int32)) M8))
def f_X11_init_36 (F : Nat) : Nat → Nat → Int32 → cM → Option (cM) := fun n => Nat.rec (fun _ _ _ => none) (fun _ ih x0 x1 M => b_X11_init_36 F (ih) (f_X11_init_71 F F) x0 x1 M) n
def b_X11_init_0 (F : Nat) (t36 : Nat → Int32 → cM → Option (cM)) : Nat → cM → Option (cM) := fun x0 M =>
  let v1 : Nat := M.length
  let M2 : cM := M ++ [.inr (8, [.null, .null, .int 0])]
  (f_X10_init F v1 M2).bind fun M3 =>
  ckm M2 M3 (
  (pF M3 x0 9 0 (.ref v1)).bind fun M4 =>
  let v5 : Nat := M4.length
  let M6 : cM := M4 ++ [.inr (8, [.null, .null, .int 0])]
  (f_X10_init F v5 M6).bind fun M7 =>
  ckm M6 M7 (
  (pF M7 x0 9 1 (.ref v5)).bind fun M8 =>
  if true = true ∧ ¬ (3 : Int32) < 0 ∧ (3 : Int32).toNatClampNeg ≤ 1000000 then (
  let v9 : Nat := M8.length
  let M10 : cM := M8 ++ [.inl (8, (3 : Int32).toNatClampNeg, .inr (.inr (.inr (.inr (fun _ => none)))))]
  (pF M10 x0 9 2 (.ref v9)).bind fun M11 =>
  t36 x0 (0 : Int32) M11)
  else none))
def f_X11_init_0 (F : Nat) : Nat → cM → Option (cM) := fun x0 M => b_X11_init_0 F (f_X11_init_36 F F) x0 M
def f_X11_init (F : Nat) : Nat → cM → Option cM := fun a0 M => f_X11_init_0 F a0 M
def b_X12_init_520 (F : Nat) (t520 : Nat → Int32 → cM → Option (cM)) : Nat → Int32 → cM → Option (cM) := fun x0 x1 M =>
  if (3 : Int32) ≤ x1 then (
  some M)
  else (
  (fR M x0 10 25).bind fun v1 =>
  (sI 0 M v1 x1 (-1 : Int32)).bind fun M2 =>
  t520 x0 (x1 + (1 : Int32)) M2)
def f_X12_init_520 (F : Nat) : Nat → Nat → Int32 → cM → Option (cM) := fun n => Nat.rec (fun _ _ _ => none) (fun _ ih x0 x1 M => b_X12_init_520 F (ih) x0 x1 M) n
def b_X12_init_499 (F : Nat) (t499 : Nat → Int32 → cM → Option (cM)) (t520 : Nat → Int32 → cM → Option (cM)) : Nat → Int32 → cM → Option (cM) := fun x0 x1 M =>
  if (12 : Int32) ≤ x1 then (
  t520 x0 (0 : Int32) M)
  else (
  (fR M x0 10 19).bind fun v1 =>
  (sI 0 M v1 x1 (-1 : Int32)).bind fun M2 =>
  t499 x0 (x1 + (1 : Int32)) M2)
def f_X12_init_499 (F : Nat) : Nat → Nat → Int32 → cM → Option (cM) := fun n => Nat.rec (fun _ _ _ => none) (fun _ ih x0 x1 M => b_X12_init_499 F (ih) (f_X12_init_520 F F) x0 x1 M) n
def b_X12_init_459 (F : Nat) (t499 : Nat → Int32 → cM → Option (cM)) : Nat → cM → Option (cM) := fun x0 M =>
  if true = true ∧ ¬ (5 : Int32) < 0 ∧ (5 : Int32).toNatClampNeg ≤ 1000000 then (
  let v1 : Nat := M.length
  let M2 : cM := M ++ [.inl (0, (5 : Int32).toNatClampNeg, .inl (fun _ => 0))]
  (pF M2 x0 10 71 (.ref v1)).bind fun M3 =>
  if true = true ∧ ¬ (25 : Int32) < 0 ∧ (25 : Int32).toNatClampNeg ≤ 1000000 then (
  let v4 : Nat := M3.length
  let M5 : cM := M3 ++ [.inl (0, (25 : Int32).toNatClampNeg, .inl (fun _ => 0))]
  (pF M5 x0 10 72 (.ref v4)).bind fun M6 =>
  if true = true ∧ ¬ (100 : Int32) < 0 ∧ (100 : Int32).toNatClampNeg ≤ 1000000 then (
  let v7 : Nat := M6.length
  let M8 : cM := M6 ++ [.inl (0, (100 : Int32).toNatClampNeg, .inl (fun _ => 0))]
  (pF M8 x0 10 73 (.ref v7)).bind fun M9 =>
  if true = true ∧ ¬ (5 : Int32) < 0 ∧ (5 : Int32).toNatClampNeg ≤ 1000000 then (
  let v10 : Nat := M9.length
  let M11 : cM := M9 ++ [.inl (0, (5 : Int32).toNatClampNeg, .inl (fun _ => 0))]
  (pF M11 x0 10 74 (.ref v10)).bind fun M12 =>
  if true = true ∧ ¬ (20 : Int32) < 0 ∧ (20 : Int32).toNatClampNeg ≤ 1000000 then (
  let v13 : Nat := M12.length
  let M14 : cM := M12 ++ [.inl (0, (20 : Int32).toNatClampNeg, .inl (fun _ => 0))]
  (pF M14 x0 10 75 (.ref v13)).bind fun M15 =>
  t499 x0 (0 : Int32) M15)
  else none)
  else none)
  else none)
  else none)
  else none
def f_X12_init_459 (F : Nat) : Nat → cM → Option (cM) := fun x0 M => b_X12_init_459 F (f_X12_init_499 F F) x0 M
def b_X12_init_413 (F : Nat) (t459 : Nat → cM → Option (cM)) : Nat → cM → Option (cM) := fun x0 M =>
  if true = true ∧ ¬ (194481 : Int32) < 0 ∧ (194481 : Int32).toNatClampNeg ≤ 1000000 then (
  let v1 : Nat := M.length
  let M2 : cM := M ++ [.inl (0, (194481 : Int32).toNatClampNeg, .inl (fun _ => 0))]
  (pF M2 x0 10 64 (.ref v1)).bind fun M3 =>
  if true = true ∧ ¬ (4000 : Int32) < 0 ∧ (4000 : Int32).toNatClampNeg ≤ 1000000 then (
  let v4 : Nat := M3.length
  let M5 : cM := M3 ++ [.inl (1, (4000 : Int32).toNatClampNeg, .inr (.inl (fun _ => 0)))]
  (pF M5 x0 10 66 (.ref v4)).bind fun M6 =>
  if true = true ∧ ¬ (4 : Int32) < 0 ∧ (4 : Int32).toNatClampNeg ≤ 1000000 then (
  let v7 : Nat := M6.length
  let M8 : cM := M6 ++ [.inl (0, (4 : Int32).toNatClampNeg, .inl (fun _ => 0))]
  (pF M8 x0 10 67 (.ref v7)).bind fun M9 =>
  if true = true ∧ ¬ (20 : Int32) < 0 ∧ (20 : Int32).toNatClampNeg ≤ 1000000 then (
  let v10 : Nat := M9.length
  let M11 : cM := M9 ++ [.inl (0, (20 : Int32).toNatClampNeg, .inl (fun _ => 0))]
  (pF M11 x0 10 68 (.ref v10)).bind fun M12 =>
  if true = true ∧ ¬ (4 : Int32) < 0 ∧ (4 : Int32).toNatClampNeg ≤ 1000000 then (
  let v13 : Nat := M12.length
  let M14 : cM := M12 ++ [.inl (0, (4 : Int32).toNatClampNeg, .inl (fun _ => 0))]
  (pF M14 x0 10 69 (.ref v13)).bind fun M15 =>
  if true = true ∧ ¬ (5 : Int32) < 0 ∧ (5 : Int32).toNatClampNeg ≤ 1000000 then (
  let v16 : Nat := M15.length
  let M17 : cM := M15 ++ [.inl (0, (5 : Int32).toNatClampNeg, .inl (fun _ => 0))]
  (pF M17 x0 10 70 (.ref v16)).bind fun M18 =>
  t459 x0 M18)
  else none)
  else none)
  else none)
  else none)
  else none)
  else none
def f_X12_init_413 (F : Nat) : Nat → cM → Option (cM) := fun x0 M => b_X12_init_413 F (f_X12_init_459 F) x0 M
def b_X12_init_376 (F : Nat) (t413 : Nat → cM → Option (cM)) : Nat → cM → Option (cM) := fun x0 M =>
  if true = true ∧ ¬ (4 : Int32) < 0 ∧ (4 : Int32).toNatClampNeg ≤ 1000000 then (
  let v1 : Nat := M.length
  let M2 : cM := M ++ [.inl (0, (4 : Int32).toNatClampNeg, .inl (fun _ => 0))]
  (pF M2 x0 10 58 (.ref v1)).bind fun M3 =>
  if true = true ∧ ¬ (4 : Int32) < 0 ∧ (4 : Int32).toNatClampNeg ≤ 1000000 then (
  let v4 : Nat := M3.length
  let M5 : cM := M3 ++ [.inl (0, (4 : Int32).toNatClampNeg, .inl (fun _ => 0))]
  (pF M5 x0 10 59 (.ref v4)).bind fun M6 =>
  if true = true ∧ ¬ (4 : Int32) < 0 ∧ (4 : Int32).toNatClampNeg ≤ 1000000 then (
  let v7 : Nat := M6.length
  let M8 : cM := M6 ++ [.inl (0, (4 : Int32).toNatClampNeg, .inl (fun _ => 0))]
  (pF M8 x0 10 60 (.ref v7)).bind fun M9 =>
  if true = true ∧ ¬ (194481 : Int32) < 0 ∧ (194481 : Int32).toNatClampNeg ≤ 1000000 then (
  let v10 : Nat := M9.length
  let M11 : cM := M9 ++ [.inl (0, (194481 : Int32).toNatClampNeg, .inl (fun _ => 0))]
  (pF M11 x0 10 62 (.ref v10)).bind fun M12 =>
  if true = true ∧ ¬ (194481 : Int32) < 0 ∧ (194481 : Int32).toNatClampNeg ≤ 1000000 then (
  let v13 : Nat := M12.length
  let M14 : cM := M12 ++ [.inl (0, (194481 : Int32).toNatClampNeg, .inl (fun _ => 0))]
  (pF M14 x0 10 63 (.ref v13)).bind fun M15 =>
  t413 x0 M15)
  else none)
  else none)
  else none)
  else none)
  else none
def f_X12_init_376 (F : Nat) : Nat → cM → Option (cM) := fun x0 M => b_X12_init_376 F (f_X12_init_413 F) x0 M
def b_X12_init_331 (F : Nat) (t376 : Nat → cM → Option (cM)) : Nat → cM → Option (cM) := fun x0 M =>
  if true = true ∧ ¬ (300 : Int32) < 0 ∧ (300 : Int32).toNatClampNeg ≤ 1000000 then (
  let v1 : Nat := M.length
  let M2 : cM := M ++ [.inl (0, (300 : Int32).toNatClampNeg, .inl (fun _ => 0))]
  (pF M2 x0 10 49 (.ref v1)).bind fun M3 =>
  if true = true ∧ ¬ (16000 : Int32) < 0 ∧ (16000 : Int32).toNatClampNeg ≤ 1000000 then (
  let v4 : Nat := M3.length
  let M5 : cM := M3 ++ [.inl (0, (16000 : Int32).toNatClampNeg, .inl (fun _ => 0))]
  (pF M5 x0 10 51 (.ref v4)).bind fun M6 =>
  if true = true ∧ ¬ (16000 : Int32) < 0 ∧ (16000 : Int32).toNatClampNeg ≤ 1000000 then (
  let v7 : Nat := M6.length
  let M8 : cM := M6 ++ [.inl (0, (16000 : Int32).toNatClampNeg, .inl (fun _ => 0))]
  (pF M8 x0 10 52 (.ref v7)).bind fun M9 =>
  if true = true ∧ ¬ (4000 : Int32) < 0 ∧ (4000 : Int32).toNatClampNeg ≤ 1000000 then (
  let v10 : Nat := M9.length
  let M11 : cM := M9 ++ [.inl (0, (4000 : Int32).toNatClampNeg, .inl (fun _ => 0))]
  (pF M11 x0 10 53 (.ref v10)).bind fun M12 =>
  if true = true ∧ ¬ (4000 : Int32) < 0 ∧ (4000 : Int32).toNatClampNeg ≤ 1000000 then (
  let v13 : Nat := M12.length
  let M14 : cM := M12 ++ [.inl (0, (4000 : Int32).toNatClampNeg, .inl (fun _ => 0))]
  (pF M14 x0 10 55 (.ref v13)).bind fun M15 =>
  t376 x0 M15)
  else none)
  else none)
  else none)
  else none)
  else none
def f_X12_init_331 (F : Nat) : Nat → cM → Option (cM) := fun x0 M => b_X12_init_331 F (f_X12_init_376 F) x0 M
def b_X12_init_290 (F : Nat) (t331 : Nat → cM → Option (cM)) : Nat → cM → Option (cM) := fun x0 M =>
  if true = true ∧ ¬ (4 : Int32) < 0 ∧ (4 : Int32).toNatClampNeg ≤ 1000000 then (
  let v1 : Nat := M.length
  let M2 : cM := M ++ [.inl (0, (4 : Int32).toNatClampNeg, .inl (fun _ => 0))]
  (pF M2 x0 10 42 (.ref v1)).bind fun M3 =>
  if true = true ∧ ¬ (44 : Int32) < 0 ∧ (44 : Int32).toNatClampNeg ≤ 1000000 then (
  let v4 : Nat := M3.length
  let M5 : cM := M3 ++ [.inl (0, (44 : Int32).toNatClampNeg, .inl (fun _ => 0))]
  (pF M5 x0 10 43 (.ref v4)).bind fun M6 =>
  if true = true ∧ ¬ (44 : Int32) < 0 ∧ (44 : Int32).toNatClampNeg ≤ 1000000 then (
  let v7 : Nat := M6.length
  let M8 : cM := M6 ++ [.inl (0, (44 : Int32).toNatClampNeg, .inl (fun _ => 0))]
  (pF M8 x0 10 44 (.ref v7)).bind fun M9 =>
  if true = true ∧ ¬ (140 : Int32) < 0 ∧ (140 : Int32).toNatClampNeg ≤ 1000000 then (
  let v10 : Nat := M9.length
  let M11 : cM := M9 ++ [.inl (0, (140 : Int32).toNatClampNeg, .inl (fun _ => 0))]
  (pF M11 x0 10 46 (.ref v10)).bind fun M12 =>
  if true = true ∧ ¬ (1200 : Int32) < 0 ∧ (1200 : Int32).toNatClampNeg ≤ 1000000 then (
  let v13 : Nat := M12.length
  let M14 : cM := M12 ++ [.inl (0, (1200 : Int32).toNatClampNeg, .inl (fun _ => 0))]
  (pF M14 x0 10 48 (.ref v13)).bind fun M15 =>
  t331 x0 M15)
  else none)
  else none)
  else none)
  else none)
  else none
def f_X12_init_290 (F : Nat) : Nat → cM → Option (cM) := fun x0 M => b_X12_init_290 F (f_X12_init_331 F) x0 M
def b_X12_init_247 (F : Nat) (t290 : Nat → cM → Option (cM)) : Nat → cM → Option (cM) := fun x0 M =>
  if true = true ∧ ¬ (348 : Int32) < 0 ∧ (348 : Int32).toNatClampNeg ≤ 1000000 then (
  let v1 : Nat := M.length
  let M2 : cM := M ++ [.inl (0, (348 : Int32).toNatClampNeg, .inl (fun _ => 0))]
  (pF M2 x0 10 35 (.ref v1)).bind fun M3 =>
  if true = true ∧ ¬ (348 : Int32) < 0 ∧ (348 : Int32).toNatClampNeg ≤ 1000000 then (
  let v4 : Nat := M3.length
  let M5 : cM := M3 ++ [.inl (0, (348 : Int32).toNatClampNeg, .inl (fun _ => 0))]
  (pF M5 x0 10 36 (.ref v4)).bind fun M6 =>
  if true = true ∧ ¬ (1392 : Int32) < 0 ∧ (1392 : Int32).toNatClampNeg ≤ 1000000 then (
  let v7 : Nat := M6.length
  let M8 : cM := M6 ++ [.inl (0, (1392 : Int32).toNatClampNeg, .inl (fun _ => 0))]
  (pF M8 x0 10 37 (.ref v7)).bind fun M9 =>
  if true = true ∧ ¬ (16 : Int32) < 0 ∧ (16 : Int32).toNatClampNeg ≤ 1000000 then (
  let v10 : Nat := M9.length
  let M11 : cM := M9 ++ [.inl (0, (16 : Int32).toNatClampNeg, .inl (fun _ => 0))]
  (pF M11 x0 10 39 (.ref v10)).bind fun M12 =>
  if true = true ∧ ¬ (20 : Int32) < 0 ∧ (20 : Int32).toNatClampNeg ≤ 1000000 then (
  let v13 : Nat := M12.length
  let M14 : cM := M12 ++ [.inl (0, (20 : Int32).toNatClampNeg, .inl (fun _ => 0))]
  (pF M14 x0 10 41 (.ref v13)).bind fun M15 =>
  t290 x0 M15)
  else none)
  else none)
  else none)
  else none)
  else none
def f_X12_init_247 (F : Nat) : Nat → cM → Option (cM) := fun x0 M => b_X12_init_247 F (f_X12_init_290 F) x0 M
def b_X12_init_205 (F : Nat) (t247 : Nat → cM → Option (cM)) : Nat → cM → Option (cM) := fun x0 M =>
  if true = true ∧ ¬ (30 : Int32) < 0 ∧ (30 : Int32).toNatClampNeg ≤ 1000000 then (
  let v1 : Nat := M.length
  let M2 : cM := M ++ [.inl (0, (30 : Int32).toNatClampNeg, .inl (fun _ => 0))]
  (pF M2 x0 10 29 (.ref v1)).bind fun M3 =>
  if true = true ∧ ¬ (87 : Int32) < 0 ∧ (87 : Int32).toNatClampNeg ≤ 1000000 then (
  let v4 : Nat := M3.length
  let M5 : cM := M3 ++ [.inl (0, (87 : Int32).toNatClampNeg, .inl (fun _ => 0))]
  (pF M5 x0 10 31 (.ref v4)).bind fun M6 =>
  if true = true ∧ ¬ (87 : Int32) < 0 ∧ (87 : Int32).toNatClampNeg ≤ 1000000 then (
  let v7 : Nat := M6.length
  let M8 : cM := M6 ++ [.inl (0, (87 : Int32).toNatClampNeg, .inl (fun _ => 0))]
  (pF M8 x0 10 32 (.ref v7)).bind fun M9 =>
  if true = true ∧ ¬ (348 : Int32) < 0 ∧ (348 : Int32).toNatClampNeg ≤ 1000000 then (
  let v10 : Nat := M9.length
  let M11 : cM := M9 ++ [.inl (0, (348 : Int32).toNatClampNeg, .inl (fun _ => 0))]
  (pF M11 x0 10 33 (.ref v10)).bind fun M12 =>
  if true = true ∧ ¬ (348 : Int32) < 0 ∧ (348 : Int32).toNatClampNeg ≤ 1000000 then (
  let v13 : Nat := M12.length
  let M14 : cM := M12 ++ [.inl (0, (348 : Int32).toNatClampNeg, .inl (fun _ => 0))]
  (pF M14 x0 10 34 (.ref v13)).bind fun M15 =>
  t247 x0 M15)
  else none)
  else none)
  else none)
  else none)
  else none
def f_X12_init_205 (F : Nat) : Nat → cM → Option (cM) := fun x0 M => b_X12_init_205 F (f_X12_init_247 F) x0 M
def b_X12_init_168 (F : Nat) (t205 : Nat → cM → Option (cM)) : Nat → cM → Option (cM) := fun x0 M =>
  if true = true ∧ ¬ (48 : Int32) < 0 ∧ (48 : Int32).toNatClampNeg ≤ 1000000 then (
  let v1 : Nat := M.length
  let M2 : cM := M ++ [.inl (0, (48 : Int32).toNatClampNeg, .inl (fun _ => 0))]
  (pF M2 x0 10 23 (.ref v1)).bind fun M3 =>
  if true = true ∧ ¬ (3 : Int32) < 0 ∧ (3 : Int32).toNatClampNeg ≤ 1000000 then (
  let v4 : Nat := M3.length
  let M5 : cM := M3 ++ [.inl (3, (3 : Int32).toNatClampNeg, .inl (fun _ => 0))]
  (pF M5 x0 10 24 (.ref v4)).bind fun M6 =>
  if true = true ∧ ¬ (3 : Int32) < 0 ∧ (3 : Int32).toNatClampNeg ≤ 1000000 then (
  let v7 : Nat := M6.length
  let M8 : cM := M6 ++ [.inl (0, (3 : Int32).toNatClampNeg, .inl (fun _ => 0))]
  (pF M8 x0 10 25 (.ref v7)).bind fun M9 =>
  if true = true ∧ ¬ (3 : Int32) < 0 ∧ (3 : Int32).toNatClampNeg ≤ 1000000 then (
  let v10 : Nat := M9.length
  let M11 : cM := M9 ++ [.inl (3, (3 : Int32).toNatClampNeg, .inl (fun _ => 0))]
  (pF M11 x0 10 26 (.ref v10)).bind fun M12 =>
  if true = true ∧ ¬ (30 : Int32) < 0 ∧ (30 : Int32).toNatClampNeg ≤ 1000000 then (
  let v13 : Nat := M12.length
  let M14 : cM := M12 ++ [.inl (3, (30 : Int32).toNatClampNeg, .inl (fun _ => 0))]
  (pF M14 x0 10 28 (.ref v13)).bind fun M15 =>
  t205 x0 M15)
  else none)
  else none)
  else none)
  else none)
  else none
def f_X12_init_168 (F : Nat) : Nat → cM → Option (cM) := fun x0 M => b_X12_init_168 F (f_X12_init_205 F) x0 M
def b_X12_init_128 (F : Nat) (t168 : Nat → cM → Option (cM)) : Nat → cM → Option (cM) := fun x0 M =>
  if true = true ∧ ¬ (12 : Int32) < 0 ∧ (12 : Int32).toNatClampNeg ≤ 1000000 then (
  let v1 : Nat := M.length
  let M2 : cM := M ++ [.inl (0, (12 : Int32).toNatClampNeg, .inl (fun _ => 0))]
  (pF M2 x0 10 18 (.ref v1)).bind fun M3 =>
  if true = true ∧ ¬ (12 : Int32) < 0 ∧ (12 : Int32).toNatClampNeg ≤ 1000000 then (
  let v4 : Nat := M3.length
  let M5 : cM := M3 ++ [.inl (0, (12 : Int32).toNatClampNeg, .inl (fun _ => 0))]
  (pF M5 x0 10 19 (.ref v4)).bind fun M6 =>
  if true = true ∧ ¬ (12 : Int32) < 0 ∧ (12 : Int32).toNatClampNeg ≤ 1000000 then (
  let v7 : Nat := M6.length
  let M8 : cM := M6 ++ [.inl (0, (12 : Int32).toNatClampNeg, .inl (fun _ => 0))]
  (pF M8 x0 10 20 (.ref v7)).bind fun M9 =>
  if true = true ∧ ¬ (12 : Int32) < 0 ∧ (12 : Int32).toNatClampNeg ≤ 1000000 then (
  let v10 : Nat := M9.length
  let M11 : cM := M9 ++ [.inl (0, (12 : Int32).toNatClampNeg, .inl (fun _ => 0))]
  (pF M11 x0 10 21 (.ref v10)).bind fun M12 =>
  if true = true ∧ ¬ (12 : Int32) < 0 ∧ (12 : Int32).toNatClampNeg ≤ 1000000 then (
  let v13 : Nat := M12.length
  let M14 : cM := M12 ++ [.inl (0, (12 : Int32).toNatClampNeg, .inl (fun _ => 0))]
  (pF M14 x0 10 22 (.ref v13)).bind fun M15 =>
  t168 x0 M15)
  else none)
  else none)
  else none)
  else none)
  else none
def f_X12_init_128 (F : Nat) : Nat → cM → Option (cM) := fun x0 M => b_X12_init_128 F (f_X12_init_168 F) x0 M
def b_X12_init_87 (F : Nat) (t128 : Nat → cM → Option (cM)) : Nat → cM → Option (cM) := fun x0 M =>
  if true = true ∧ ¬ (12 : Int32) < 0 ∧ (12 : Int32).toNatClampNeg ≤ 1000000 then (
  let v1 : Nat := M.length
  let M2 : cM := M ++ [.inl (0, (12 : Int32).toNatClampNeg, .inl (fun _ => 0))]
  (pF M2 x0 10 13 (.ref v1)).bind fun M3 =>
  if true = true ∧ ¬ (3 : Int32) < 0 ∧ (3 : Int32).toNatClampNeg ≤ 1000000 then (
  let v4 : Nat := M3.length
  let M5 : cM := M3 ++ [.inl (0, (3 : Int32).toNatClampNeg, .inl (fun _ => 0))]
  (pF M5 x0 10 14 (.ref v4)).bind fun M6 =>
  if true = true ∧ ¬ (240 : Int32) < 0 ∧ (240 : Int32).toNatClampNeg ≤ 1000000 then (
  let v7 : Nat := M6.length
  let M8 : cM := M6 ++ [.inl (0, (240 : Int32).toNatClampNeg, .inl (fun _ => 0))]
  (pF M8 x0 10 15 (.ref v7)).bind fun M9 =>
  if true = true ∧ ¬ (12 : Int32) < 0 ∧ (12 : Int32).toNatClampNeg ≤ 1000000 then (
  let v10 : Nat := M9.length
  let M11 : cM := M9 ++ [.inl (0, (12 : Int32).toNatClampNeg, .inl (fun _ => 0))]
  (pF M11 x0 10 16 (.ref v10)).bind fun M12 =>
  if true = true ∧ ¬ (240 : Int32) < 0 ∧ (240 : Int32).toNatClampNeg ≤ 1000000 then (
  let v13 : Nat := M12.length
  let M14 : cM := M12 ++ [.inl (0, (240 : Int32).toNatClampNeg, .inl (fun _ => 0))]
  (pF M14 x0 10 17 (.ref v13)).bind fun M15 =>
  t128 x0 M15)
  else none)
  else none)
  else none)
  else none)
  else none
def f_X12_init_87 (F : Nat) : Nat → cM → Option (cM) := fun x0 M => b_X12_init_87 F (f_X12_init_128 F) x0 M
def b_X12_init_46 (F : Nat) (t87 : Nat → cM → Option (cM)) : Nat → cM → Option (cM) := fun x0 M =>
  if true = true ∧ ¬ (3 : Int32) < 0 ∧ (3 : Int32).toNatClampNeg ≤ 1000000 then (
  let v1 : Nat := M.length
  let M2 : cM := M ++ [.inl (0, (3 : Int32).toNatClampNeg, .inl (fun _ => 0))]
  (pF M2 x0 10 8 (.ref v1)).bind fun M3 =>
  if true = true ∧ ¬ (12 : Int32) < 0 ∧ (12 : Int32).toNatClampNeg ≤ 1000000 then (
  let v4 : Nat := M3.length
  let M5 : cM := M3 ++ [.inl (0, (12 : Int32).toNatClampNeg, .inl (fun _ => 0))]
  (pF M5 x0 10 9 (.ref v4)).bind fun M6 =>
  if true = true ∧ ¬ (240 : Int32) < 0 ∧ (240 : Int32).toNatClampNeg ≤ 1000000 then (
  let v7 : Nat := M6.length
  let M8 : cM := M6 ++ [.inl (0, (240 : Int32).toNatClampNeg, .inl (fun _ => 0))]
  (pF M8 x0 10 10 (.ref v7)).bind fun M9 =>
  if true = true ∧ ¬ (12 : Int32) < 0 ∧ (12 : Int32).toNatClampNeg ≤ 1000000 then (
  let v10 : Nat := M9.length
  let M11 : cM := M9 ++ [.inl (0, (12 : Int32).toNatClampNeg, .inl (fun _ => 0))]
  (pF M11 x0 10 11 (.ref v10)).bind fun M12 =>
  if true = true ∧ ¬ (240 : Int32) < 0 ∧ (240 : Int32).toNatClampNeg ≤ 1000000 then (
  let v13 : Nat := M12.length
  let M14 : cM := M12 ++ [.inl (0, (240 : Int32).toNatClampNeg, .inl (fun _ => 0))]
  (pF M14 x0 10 12 (.ref v13)).bind fun M15 =>
  t87 x0 M15)
  else none)
  else none)
  else none)
  else none)
  else none
def f_X12_init_46 (F : Nat) : Nat → cM → Option (cM) := fun x0 M => b_X12_init_46 F (f_X12_init_87 F) x0 M
def b_X12_init_0 (F : Nat) (t46 : Nat → cM → Option (cM)) : Nat → cM → Option (cM) := fun x0 M =>
  if true = true ∧ ¬ (20 : Int32) < 0 ∧ (20 : Int32).toNatClampNeg ≤ 1000000 then (
  let v1 : Nat := M.length
  let M2 : cM := M ++ [.inl (0, (20 : Int32).toNatClampNeg, .inl (fun _ => 0))]
  (pF M2 x0 10 2 (.ref v1)).bind fun M3 =>
  if true = true ∧ ¬ (160 : Int32) < 0 ∧ (160 : Int32).toNatClampNeg ≤ 1000000 then (
  let v4 : Nat := M3.length
  let M5 : cM := M3 ++ [.inl (0, (160 : Int32).toNatClampNeg, .inl (fun _ => 0))]
  (pF M5 x0 10 4 (.ref v4)).bind fun M6 =>
  if true = true ∧ ¬ (8 : Int32) < 0 ∧ (8 : Int32).toNatClampNeg ≤ 1000000 then (
  let v7 : Nat := M6.length
  let M8 : cM := M6 ++ [.inl (0, (8 : Int32).toNatClampNeg, .inl (fun _ => 0))]
  (pF M8 x0 10 5 (.ref v7)).bind fun M9 =>
  if true = true ∧ ¬ (8 : Int32) < 0 ∧ (8 : Int32).toNatClampNeg ≤ 1000000 then (
  let v10 : Nat := M9.length
  let M11 : cM := M9 ++ [.inl (0, (8 : Int32).toNatClampNeg, .inl (fun _ => 0))]
  (pF M11 x0 10 6 (.ref v10)).bind fun M12 =>
  if true = true ∧ ¬ (320 : Int32) < 0 ∧ (320 : Int32).toNatClampNeg ≤ 1000000 then (
  let v13 : Nat := M12.length
  let M14 : cM := M12 ++ [.inl (0, (320 : Int32).toNatClampNeg, .inl (fun _ => 0))]
  (pF M14 x0 10 7 (.ref v13)).bind fun M15 =>
  t46 x0 M15)
  else none)
  else none)
  else none)
  else none)
  else none
def f_X12_init_0 (F : Nat) : Nat → cM → Option (cM) := fun x0 M => b_X12_init_0 F (f_X12_init_46 F) x0 M
def f_X12_init (F : Nat) : Nat → cM → Option cM := fun a0 M => f_X12_init_0 F a0 M
theorem nwL_ok {own : String} {l : List (Nat × (Nat × List Value))} (hl : ∀ x ∈ l, ∃ (Cn : String) (T : u_T) (N : Nat) (ty : Nat → FieldType), vwCl[x.2.1]? = some (Cn, T, N) ∧ Cond.classLink own x.1 Cn ∈ lw_good ∧ Cond.instantiable Cn N ∈ lw_good ∧ Cond.initialized Cn ∈ lw_good ∧ (∀ k, k < N → parseFieldDescriptor (T k).2.2.1 = some (ty k)) ∧ x.2.2.length = N ∧ (∀ B : Nat, x.2.2.map (cV B) = x.2.2) ∧ ∀ j, j < N → defaultValue (ty j) = vp_V x.2.2 j) {k : Nat} {q : Nat × List Value} (h : lkN l k = some q) : ∃ (Cn : String) (T : u_T) (N : Nat) (ty : Nat → FieldType), vwCl[q.1]? = some (Cn, T, N) ∧ Cond.classLink own k Cn ∈ lw_good ∧ Cond.instantiable Cn N ∈ lw_good ∧ Cond.initialized Cn ∈ lw_good ∧ (∀ k, k < N → parseFieldDescriptor (T k).2.2.1 = some (ty k)) ∧ q.2.length = N ∧ (∀ B : Nat, q.2.map (cV B) = q.2) ∧ ∀ j, j < N → defaultValue (ty j) = vp_V q.2 j := hl _ (lkN_mem h)
theorem anL_ok {own : String} {l : List (Nat × Nat)} (hl : ∀ x ∈ l, 4 ≤ x.2 ∧ x.2 < 10 ∧ ∃ r : vw_C, vwCl[tcl x.2]? = some r ∧ Cond.classLink own x.1 r.1 ∈ lw_good) {k t : Nat} (h : lkN l k = some t) : 4 ≤ t ∧ t < 10 ∧ ∃ r : vw_C, vwCl[tcl t]? = some r ∧ Cond.classLink own k r.1 ∈ lw_good := hl _ (lkN_mem h)
theorem ar_ok : arOK := ⟨lw_good_of (tb_ok 52 (by decide +kernel)) rfl, lw_good_of (tb_ok 346 (by decide +kernel)) rfl, lw_good_of (tb_ok 51 (by decide +kernel)) rfl, lw_good_of (tb_ok 244 (by decide +kernel)) rfl⟩
-- PatchbayScript$Text.<init>
def T_X10_init : List cRow := [(0, .aload_n 0, 1, 0), (1, .invokespecial 3, 4, 0), (4, .aload_n 0, 5, 0), (5, .bipush 20, 7, 0), (7, .newarray .char, 9, 0), (9, .putfield 11, 12, 0), (12, .aload_n 0, 13, 0), (13, .iconst 4, 14, 0), (14, .newarray .int, 16, 0), (16, .putfield 17, 19, 0), (19, .return_, 20, 0)]
theorem T_X10_init_ok : T_X10_init.all (rowB cX10_init) = true := by decide +kernel
def PI_RX10 : cP := poL [] [] [(11, (8, 0, 22)), (17, (8, 1, 22))] [] []
theorem PI_RX10_ok : pOK RX10 PI_RX10 := poL_ok (fun _ h => absurd h List.not_mem_nil) (fun _ h => absurd h List.not_mem_nil) (by decide +kernel) (List.forall_mem_cons.mpr ⟨tb_ok 36 (by decide +kernel), List.forall_mem_cons.mpr ⟨tb_ok 37 (by decide +kernel), fun _ h => absurd h List.not_mem_nil⟩⟩)
theorem nw_RX10_ok : nwOK RX10 PI_RX10 := by
  refine ⟨fun k q h => ?_, fun k t h => ?_⟩
  · exact nwL_ok (l := []) (fun _ h => absurd h List.not_mem_nil) h
  · exact anL_ok (l := []) (fun _ h => absurd h List.not_mem_nil) h
def na_X10_init : List (Nat × Nat) := [(11, 1)]
def ca_X10_init (F : Nat) : List (Nat × cFn cM) := [(11, n_obj)]
theorem ca_X10_init_ok {q : cL} {D : Nat} (hD : 1 ≤ D) (F : Nat) : ∀ x ∈ ca_X10_init F, 1 ≤ D ∧ ceI q RX10 (D - 1) x.1 x.2 := List.forall_mem_cons.mpr ⟨⟨by omega, n_obj_ok (k := 3) (List.forall_mem_cons.mpr ⟨lw_good_of (tb_ok 35 (by decide +kernel)) rfl, List.forall_mem_cons.mpr ⟨lw_good_of (tb_ok 28 (by decide +kernel)) rfl, List.forall_mem_cons.mpr ⟨lw_good_of (tb_ok 29 (by decide +kernel)) rfl, fun _ h => absurd h List.not_mem_nil⟩⟩⟩)⟩, fun _ h => absurd h List.not_mem_nil⟩
set_option maxRecDepth 20000 in
theorem e_X10_init_0 (F : Nat) (x0 : Nat) (M : cM) : b_X10_init_0 F x0 M = run T_X10_init PI_RX10 true 5 (naL na_X10_init) (caL (ca_X10_init F)) (lkN []) (lkN []) krV kxN (spL []) (KL []) 14 0 [some (.ref x0)] [] M := rfl
theorem ok_X10_init_0 {q : cL} {D : Nat} (hD : 1 ≤ D) {M0 M1 : cM} (hl : M0.length ≤ M1.length ∧ msz M0 ≤ msz M1) {F : Nat} : ∀ x0 M, f_X10_init_0 F x0 M = some M1 → WI q D 1 M0 M1 cX10_init RX10 0 [some (.ref x0)] [] M := by
  intro x0 M h
  exact segW_ok hl PI_RX10_ok nw_RX10_ok ar_ok T_X10_init_ok (ca_X10_init_ok hD F) (fun _ h => absurd h List.not_mem_nil) ((e_X10_init_0 F x0 M).symm.trans h)
theorem c_X10_init {q : cL} {D : Nat} (hD : 1 ≤ D) (F : Nat) (a0 : Nat) (M M1 : cM) (hl : M.length ≤ M1.length ∧ msz M ≤ msz M1) (h : f_X10_init F a0 M = some M1) : CI q yX10_init (.code yX10_init cX10_init 1 none) D [.ref a0] M M1 :=
  CI_ofW (own := RX10) (by decide +kernel) rfl rfl (Nat.le_of_ble_eq_true rfl) hl (ok_X10_init_0 hD hl a0 M h)
-- PatchbayScript$Board.<init>
def T_X1_init : List cRow := [(0, .aload_n 0, 1, 0), (1, .invokespecial 3, 4, 0), (4, .aload_n 0, 5, 0), (5, .new 1, 8, 0), (8, .dup, 9, 0), (9, .invokespecial 9, 12, 0), (12, .putfield 10, 15, 0), (15, .aload_n 0, 16, 0), (16, .new 1, 19, 0), (19, .dup, 20, 0), (20, .invokespecial 9, 23, 0), (23, .putfield 16, 26, 0), (26, .aload_n 0, 27, 0), (27, .bipush 30, 29, 0), (29, .newarray .int, 31, 0), (31, .putfield 19, 34, 0), (34, .aload_n 0, 35, 0), (35, .sipush 128, 38, 0), (38, .newarray .int, 40, 0), (40, .putfield 25, 43, 0), (43, .aload_n 0, 44, 0), (44, .sipush 1764, 47, 0), (47, .newarray .int, 49, 0), (49, .putfield 30, 52, 0), (52, .aload_n 0, 53, 0), (53, .bipush 72, 55, 0), (55, .newarray .int, 57, 0), (57, .putfield 33, 60, 0), (60, .aload_n 0, 61, 0), (61, .bipush 72, 63, 0), (63, .newarray .int, 65, 0), (65, .putfield 36, 68, 0), (68, .aload_n 0, 69, 0), (69, .new 1, 72, 0), (72, .dup, 73, 0), (73, .invokespecial 9, 76, 0), (76, .putfield 39, 79, 0), (79, .return_, 80, 0)]
theorem T_X1_init_ok : T_X1_init.all (rowB cX1_init) = true := by decide +kernel
def PI_RX1 : cP := poL [] [] [(10, (0, 0, 22)), (16, (0, 1, 22)), (19, (0, 2, 22)), (25, (0, 3, 22)), (30, (0, 4, 22)), (33, (0, 5, 22)), (36, (0, 6, 22)), (39, (0, 7, 22))] [(1, (8, [.null, .null, .int 0]))] []
theorem PI_RX1_ok : pOK RX1 PI_RX1 := poL_ok (fun _ h => absurd h List.not_mem_nil) (fun _ h => absurd h List.not_mem_nil) (by decide +kernel) (List.forall_mem_cons.mpr ⟨tb_ok 217 (by decide +kernel), List.forall_mem_cons.mpr ⟨tb_ok 218 (by decide +kernel), List.forall_mem_cons.mpr ⟨tb_ok 221 (by decide +kernel), List.forall_mem_cons.mpr ⟨tb_ok 222 (by decide +kernel), List.forall_mem_cons.mpr ⟨tb_ok 223 (by decide +kernel), List.forall_mem_cons.mpr ⟨tb_ok 224 (by decide +kernel), List.forall_mem_cons.mpr ⟨tb_ok 225 (by decide +kernel), List.forall_mem_cons.mpr ⟨tb_ok 226 (by decide +kernel), fun _ h => absurd h List.not_mem_nil⟩⟩⟩⟩⟩⟩⟩⟩)
theorem nw_RX1_ok : nwOK RX1 PI_RX1 := by
  refine ⟨fun k q h => ?_, fun k t h => ?_⟩
  · exact nwL_ok (l := [(1, (8, [.null, .null, .int 0]))]) (List.forall_mem_cons.mpr ⟨⟨RX10, TX10, 3, tyX10, rfl, lw_good_of (tb_ok 215 (by decide +kernel)) rfl, lw_good_of (tb_ok 31 (by decide +kernel)) rfl, lw_good_of (tb_ok 2 (by decide +kernel)) rfl, tyX10_ok, rfl, fun _ => rfl, by decide +kernel⟩, fun _ h => absurd h List.not_mem_nil⟩) h
  · exact anL_ok (l := []) (fun _ h => absurd h List.not_mem_nil) h
def na_X1_init : List (Nat × Nat) := [(11, 1), (29, 1)]
def ca_X1_init (F : Nat) : List (Nat × cFn cM) := [(11, n_obj), (29, n_ini (f_X10_init F))]
theorem ca_X1_init_ok {q : cL} {D : Nat} (hD : 2 ≤ D) (F : Nat) : ∀ x ∈ ca_X1_init F, 1 ≤ D ∧ ceI q RX1 (D - 1) x.1 x.2 := List.forall_mem_cons.mpr ⟨⟨by omega, n_obj_ok (k := 3) (List.forall_mem_cons.mpr ⟨lw_good_of (tb_ok 214 (by decide +kernel)) rfl, List.forall_mem_cons.mpr ⟨lw_good_of (tb_ok 28 (by decide +kernel)) rfl, List.forall_mem_cons.mpr ⟨lw_good_of (tb_ok 29 (by decide +kernel)) rfl, fun _ h => absurd h List.not_mem_nil⟩⟩⟩)⟩, List.forall_mem_cons.mpr ⟨⟨by omega, n_ini_ok (k := 9) (host := "PatchbayScript") (fun a M M' hl h => c_X10_init (by omega) F a M M' hl h) (Or.inl (List.mem_filter.mpr ⟨tb_ok 216 (by decide +kernel), rfl⟩)) (List.forall_mem_cons.mpr ⟨lw_good_of (tb_ok 33 (by decide +kernel)) rfl, List.forall_mem_cons.mpr ⟨lw_good_of (tb_ok 2 (by decide +kernel)) rfl, List.forall_mem_cons.mpr ⟨lw_good_of (tb_ok 34 (by decide +kernel)) rfl, fun _ h => absurd h List.not_mem_nil⟩⟩⟩) rfl ⟨by decide +kernel, by decide +kernel, by decide +kernel⟩ (by decide)⟩, fun _ h => absurd h List.not_mem_nil⟩⟩
def kd_X1_init_43 (g : Nat → cM → Option (cM)) : cKf cM := fun vs st M => (lR vs 0).bind fun x0 => match st with
  | [] => g x0 M
  | _ => none
theorem kf_X1_init_43 {q : cL} {D : Nat} {M0 M1 : cM} {g : Nat → cM → Option (cM)} (hg : ∀ x0 M, g x0 M = some M1 → WI q D 1 M0 M1 cX1_init RX1 43 [some (.ref x0)] [] M) : ∀ vs st M, kd_X1_init_43 g vs st M = some M1 → WI q D 1 M0 M1 cX1_init RX1 43 vs st M := by
  intro vs st M h
  unfold kd_X1_init_43 at h
  obtain ⟨x0, h0, h⟩ := Option.bind_eq_some_iff.mp h
  split at h
  · exact WI_weak (hg _ _ h) rfl ⟨lR_of h0, trivial⟩
  · cases h
set_option maxRecDepth 20000 in
theorem e_X1_init_43 (F : Nat) (x0 : Nat) (M : cM) : b_X1_init_43 F x0 M = run T_X1_init PI_RX1 true 5 (naL na_X1_init) (caL (ca_X1_init F)) (lkN []) (lkN []) krV kxN (spL []) (KL []) 41 43 [some (.ref x0)] [] M := rfl
theorem ok_X1_init_43 {q : cL} {D : Nat} (hD : 2 ≤ D) {M0 M1 : cM} (hl : M0.length ≤ M1.length ∧ msz M0 ≤ msz M1) {F : Nat} : ∀ x0 M, f_X1_init_43 F x0 M = some M1 → WI q D 1 M0 M1 cX1_init RX1 43 [some (.ref x0)] [] M := by
  intro x0 M h
  exact segW_ok hl PI_RX1_ok nw_RX1_ok ar_ok T_X1_init_ok (ca_X1_init_ok hD F) (fun _ h => absurd h List.not_mem_nil) ((e_X1_init_43 F x0 M).symm.trans h)
set_option maxRecDepth 20000 in
theorem e_X1_init_0 (F : Nat) (t43 : Nat → cM → Option (cM)) (x0 : Nat) (M : cM) : b_X1_init_0 F t43 x0 M = run T_X1_init PI_RX1 true 5 (naL na_X1_init) (caL (ca_X1_init F)) (lkN []) (lkN []) krV kxN (spL [43]) (KL [(43, kd_X1_init_43 t43)]) 41 0 [some (.ref x0)] [] M := rfl
theorem ok_X1_init_0 {q : cL} {D : Nat} (hD : 2 ≤ D) {M0 M1 : cM} (hl : M0.length ≤ M1.length ∧ msz M0 ≤ msz M1) {F : Nat} : ∀ x0 M, f_X1_init_0 F x0 M = some M1 → WI q D 1 M0 M1 cX1_init RX1 0 [some (.ref x0)] [] M := by
  intro x0 M h
  exact segW_ok hl PI_RX1_ok nw_RX1_ok ar_ok T_X1_init_ok (ca_X1_init_ok hD F) (List.forall_mem_cons.mpr ⟨kf_X1_init_43 (ok_X1_init_43 hD hl), fun _ h => absurd h List.not_mem_nil⟩) ((e_X1_init_0 F (f_X1_init_43 F) x0 M).symm.trans h)
theorem c_X1_init {q : cL} {D : Nat} (hD : 2 ≤ D) (F : Nat) (a0 : Nat) (M M1 : cM) (hl : M.length ≤ M1.length ∧ msz M ≤ msz M1) (h : f_X1_init F a0 M = some M1) : CI q yX1_init (.code yX1_init cX1_init 1 none) D [.ref a0] M M1 :=
  CI_ofW (own := RX1) (by decide +kernel) rfl rfl (Nat.le_of_ble_eq_true rfl) hl (ok_X1_init_0 hD hl a0 M h)
-- PatchbayScript$Stock.<init>
def T_X8_init : List cRow := [(0, .aload_n 0, 1, 0), (1, .invokespecial 9, 4, 0), (4, .aload_n 0, 5, 0), (5, .iconst 4, 6, 0), (6, .anewarray 17, 9, 0), (9, .putfield 19, 12, 0), (12, .aload_n 0, 13, 0), (13, .iconst 4, 14, 0), (14, .anewarray 17, 17, 0), (17, .putfield 23, 20, 0), (20, .aload_n 0, 21, 0), (21, .sipush 1812, 24, 0), (24, .newarray .int, 26, 0), (26, .putfield 26, 29, 0), (29, .aload_n 0, 30, 0), (30, .sipush 1812, 33, 0), (33, .newarray .int, 35, 0), (35, .putfield 30, 38, 0), (38, .aload_n 0, 39, 0), (39, .sipush 7248, 42, 0), (42, .newarray .int, 44, 0), (44, .putfield 33, 47, 0), (47, .aload_n 0, 48, 0), (48, .sipush 7248, 51, 0), (51, .newarray .int, 53, 0), (53, .putfield 36, 56, 0), (56, .aload_n 0, 57, 0), (57, .bipush 84, 59, 0), (59, .newarray .int, 61, 0), (61, .putfield 39, 64, 0), (64, .aload_n 0, 65, 0), (65, .sipush 1812, 68, 0), (68, .newarray .int, 70, 0), (70, .putfield 42, 73, 0), (73, .aload_n 0, 74, 0), (74, .sipush 1812, 77, 0), (77, .newarray .int, 79, 0), (79, .putfield 45, 82, 0), (82, .aload_n 0, 83, 0), (83, .bipush 21, 85, 0), (85, .newarray .int, 87, 0), (87, .putfield 48, 90, 0), (90, .aload_n 0, 91, 0), (91, .sipush 1812, 94, 0), (94, .newarray .int, 96, 0), (96, .putfield 51, 99, 0), (99, .iconst 0, 100, 0), (100, .istore_n 1, 101, 0), (101, .iload_n 1, 102, 0), (102, .iconst 4, 103, 0), (103, .if_icmp .ge 34, 106, 137), (106, .aload_n 0, 107, 0), (107, .getfield 19, 110, 0), (110, .iload_n 1, 111, 0), (111, .new 17, 114, 0), (114, .dup, 115, 0), (115, .invokespecial 54, 118, 0), (118, .aastore, 119, 0), (119, .aload_n 0, 120, 0), (120, .getfield 23, 123, 0), (123, .iload_n 1, 124, 0), (124, .aload_n 0, 125, 0), (125, .getfield 19, 128, 0), (128, .iload_n 1, 129, 0), (129, .aaload, 130, 0), (130, .aastore, 131, 0), (131, .iinc 1 1, 134, 0), (134, .goto (-33), 137, 101), (137, .return_, 138, 0)]
theorem T_X8_init_ok : T_X8_init.all (rowB cX8_init) = true := by decide +kernel
def PI_RX8 : cP := poL [] [] [(19, (6, 0, 22)), (23, (6, 1, 22)), (26, (6, 3, 22)), (30, (6, 4, 22)), (33, (6, 5, 22)), (36, (6, 6, 22)), (39, (6, 8, 22)), (42, (6, 9, 22)), (45, (6, 10, 22)), (48, (6, 12, 22)), (51, (6, 13, 22))] [(17, (0, [.null, .null, .null, .null, .null, .null, .null, .null]))] [(17, 4)]
theorem PI_RX8_ok : pOK RX8 PI_RX8 := poL_ok (fun _ h => absurd h List.not_mem_nil) (fun _ h => absurd h List.not_mem_nil) (by decide +kernel) (List.forall_mem_cons.mpr ⟨tb_ok 245 (by decide +kernel), List.forall_mem_cons.mpr ⟨tb_ok 247 (by decide +kernel), List.forall_mem_cons.mpr ⟨tb_ok 251 (by decide +kernel), List.forall_mem_cons.mpr ⟨tb_ok 253 (by decide +kernel), List.forall_mem_cons.mpr ⟨tb_ok 255 (by decide +kernel), List.forall_mem_cons.mpr ⟨tb_ok 257 (by decide +kernel), List.forall_mem_cons.mpr ⟨tb_ok 261 (by decide +kernel), List.forall_mem_cons.mpr ⟨tb_ok 263 (by decide +kernel), List.forall_mem_cons.mpr ⟨tb_ok 265 (by decide +kernel), List.forall_mem_cons.mpr ⟨tb_ok 269 (by decide +kernel), List.forall_mem_cons.mpr ⟨tb_ok 270 (by decide +kernel), fun _ h => absurd h List.not_mem_nil⟩⟩⟩⟩⟩⟩⟩⟩⟩⟩⟩)
theorem nw_RX8_ok : nwOK RX8 PI_RX8 := by
  refine ⟨fun k q h => ?_, fun k t h => ?_⟩
  · exact nwL_ok (l := [(17, (0, [.null, .null, .null, .null, .null, .null, .null, .null]))]) (List.forall_mem_cons.mpr ⟨⟨RX1, TX1, 8, tyX1, rfl, lw_good_of (tb_ok 208 (by decide +kernel)) rfl, lw_good_of (tb_ok 210 (by decide +kernel)) rfl, lw_good_of (tb_ok 10 (by decide +kernel)) rfl, tyX1_ok, rfl, fun _ => rfl, by decide +kernel⟩, fun _ h => absurd h List.not_mem_nil⟩) h
  · exact anL_ok (l := [(17, 4)]) (List.forall_mem_cons.mpr ⟨⟨by decide, by decide, _, rfl, lw_good_of (tb_ok 208 (by decide +kernel)) rfl⟩, fun _ h => absurd h List.not_mem_nil⟩) h
def na_X8_init : List (Nat × Nat) := [(29, 1), (164, 1)]
def ca_X8_init (F : Nat) : List (Nat × cFn cM) := [(29, n_obj), (164, n_ini (f_X1_init F))]
theorem ca_X8_init_ok {q : cL} {D : Nat} (hD : 3 ≤ D) (F : Nat) : ∀ x ∈ ca_X8_init F, 1 ≤ D ∧ ceI q RX8 (D - 1) x.1 x.2 := List.forall_mem_cons.mpr ⟨⟨by omega, n_obj_ok (k := 9) (List.forall_mem_cons.mpr ⟨lw_good_of (tb_ok 207 (by decide +kernel)) rfl, List.forall_mem_cons.mpr ⟨lw_good_of (tb_ok 28 (by decide +kernel)) rfl, List.forall_mem_cons.mpr ⟨lw_good_of (tb_ok 29 (by decide +kernel)) rfl, fun _ h => absurd h List.not_mem_nil⟩⟩⟩)⟩, List.forall_mem_cons.mpr ⟨⟨by omega, n_ini_ok (k := 54) (host := "PatchbayScript") (fun a M M' hl h => c_X1_init (by omega) F a M M' hl h) (Or.inl (List.mem_filter.mpr ⟨tb_ok 211 (by decide +kernel), rfl⟩)) (List.forall_mem_cons.mpr ⟨lw_good_of (tb_ok 212 (by decide +kernel)) rfl, List.forall_mem_cons.mpr ⟨lw_good_of (tb_ok 10 (by decide +kernel)) rfl, List.forall_mem_cons.mpr ⟨lw_good_of (tb_ok 213 (by decide +kernel)) rfl, fun _ h => absurd h List.not_mem_nil⟩⟩⟩) rfl ⟨by decide +kernel, by decide +kernel, by decide +kernel⟩ (by decide)⟩, fun _ h => absurd h List.not_mem_nil⟩⟩
def kd_X8_init_47 (g : Nat → cM → Option (cM)) : cKf cM := fun vs st M => (lR vs 0).bind fun x0 => match st with
  | [] => g x0 M
  | _ => none
theorem kf_X8_init_47 {q : cL} {D : Nat} {M0 M1 : cM} {g : Nat → cM → Option (cM)} (hg : ∀ x0 M, g x0 M = some M1 → WI q D 2 M0 M1 cX8_init RX8 47 [some (.ref x0), none] [] M) : ∀ vs st M, kd_X8_init_47 g vs st M = some M1 → WI q D 2 M0 M1 cX8_init RX8 47 vs st M := by
  intro vs st M h
  unfold kd_X8_init_47 at h
  obtain ⟨x0, h0, h⟩ := Option.bind_eq_some_iff.mp h
  split at h
  · exact WI_weak (hg _ _ h) rfl ⟨lR_of h0, trivial⟩
  · cases h
def kd_X8_init_101 (g : Nat → Int32 → cM → Option (cM)) : cKf cM := fun vs st M => (lR vs 0).bind fun x0 => (lI vs 1).bind fun x1 => match st with
  | [] => g x0 x1 M
  | _ => none
theorem kf_X8_init_101 {q : cL} {D : Nat} {M0 M1 : cM} {g : Nat → Int32 → cM → Option (cM)} (hg : ∀ x0 x1 M, g x0 x1 M = some M1 → WI q D 2 M0 M1 cX8_init RX8 101 [some (.ref x0), some (.int x1)] [] M) : ∀ vs st M, kd_X8_init_101 g vs st M = some M1 → WI q D 2 M0 M1 cX8_init RX8 101 vs st M := by
  intro vs st M h
  unfold kd_X8_init_101 at h
  obtain ⟨x0, h0, h⟩ := Option.bind_eq_some_iff.mp h
  obtain ⟨x1, h1, h⟩ := Option.bind_eq_some_iff.mp h
  split at h
  · exact WI_weak (hg _ _ _ h) rfl ⟨lR_of h0, lI_of h1, trivial⟩
  · cases h
set_option maxRecDepth 20000 in
theorem e_X8_init_101 (F : Nat) (t101 : Nat → Int32 → cM → Option (cM)) (x0 : Nat) (x1 : Int32) (M : cM) : b_X8_init_101 F t101 x0 x1 M = run T_X8_init PI_RX8 true 5 (naL na_X8_init) (caL (ca_X8_init F)) (lkN []) (lkN []) krV kxN (spL [101]) (KL [(101, kd_X8_init_101 t101)]) 72 101 [some (.ref x0), some (.int x1)] [] M := rfl
theorem ok_X8_init_101 {q : cL} {D : Nat} (hD : 3 ≤ D) {M0 M1 : cM} (hl : M0.length ≤ M1.length ∧ msz M0 ≤ msz M1) {F : Nat} (n : Nat) : ∀ x0 x1 M, f_X8_init_101 F n x0 x1 M = some M1 → WI q D 2 M0 M1 cX8_init RX8 101 [some (.ref x0), some (.int x1)] [] M := by
  induction n with
  | zero => intro x0 x1 M h; cases h
  | succ n ih =>
    intro x0 x1 M h
    exact segW_ok hl PI_RX8_ok nw_RX8_ok ar_ok T_X8_init_ok (ca_X8_init_ok hD F) (List.forall_mem_cons.mpr ⟨kf_X8_init_101 (ih), fun _ h => absurd h List.not_mem_nil⟩) ((e_X8_init_101 F (f_X8_init_101 F n) x0 x1 M).symm.trans h)
set_option maxRecDepth 20000 in
theorem e_X8_init_47 (F : Nat) (t101 : Nat → Int32 → cM → Option (cM)) (x0 : Nat) (M : cM) : b_X8_init_47 F t101 x0 M = run T_X8_init PI_RX8 true 5 (naL na_X8_init) (caL (ca_X8_init F)) (lkN []) (lkN []) krV kxN (spL [101]) (KL [(101, kd_X8_init_101 t101)]) 72 47 [some (.ref x0), none] [] M := rfl
theorem ok_X8_init_47 {q : cL} {D : Nat} (hD : 3 ≤ D) {M0 M1 : cM} (hl : M0.length ≤ M1.length ∧ msz M0 ≤ msz M1) {F : Nat} : ∀ x0 M, f_X8_init_47 F x0 M = some M1 → WI q D 2 M0 M1 cX8_init RX8 47 [some (.ref x0), none] [] M := by
  intro x0 M h
  exact segW_ok hl PI_RX8_ok nw_RX8_ok ar_ok T_X8_init_ok (ca_X8_init_ok hD F) (List.forall_mem_cons.mpr ⟨kf_X8_init_101 (ok_X8_init_101 hD hl F), fun _ h => absurd h List.not_mem_nil⟩) ((e_X8_init_47 F (f_X8_init_101 F F) x0 M).symm.trans h)
set_option maxRecDepth 20000 in
theorem e_X8_init_0 (F : Nat) (t47 : Nat → cM → Option (cM)) (x0 : Nat) (M : cM) : b_X8_init_0 F t47 x0 M = run T_X8_init PI_RX8 true 5 (naL na_X8_init) (caL (ca_X8_init F)) (lkN []) (lkN []) krV kxN (spL [47]) (KL [(47, kd_X8_init_47 t47)]) 72 0 [some (.ref x0), none] [] M := rfl
theorem ok_X8_init_0 {q : cL} {D : Nat} (hD : 3 ≤ D) {M0 M1 : cM} (hl : M0.length ≤ M1.length ∧ msz M0 ≤ msz M1) {F : Nat} : ∀ x0 M, f_X8_init_0 F x0 M = some M1 → WI q D 2 M0 M1 cX8_init RX8 0 [some (.ref x0), none] [] M := by
  intro x0 M h
  exact segW_ok hl PI_RX8_ok nw_RX8_ok ar_ok T_X8_init_ok (ca_X8_init_ok hD F) (List.forall_mem_cons.mpr ⟨kf_X8_init_47 (ok_X8_init_47 hD hl), fun _ h => absurd h List.not_mem_nil⟩) ((e_X8_init_0 F (f_X8_init_47 F) x0 M).symm.trans h)
theorem c_X8_init {q : cL} {D : Nat} (hD : 3 ≤ D) (F : Nat) (a0 : Nat) (M M1 : cM) (hl : M.length ≤ M1.length ∧ msz M ≤ msz M1) (h : f_X8_init F a0 M = some M1) : CI q yX8_init (.code yX8_init cX8_init 2 none) D [.ref a0] M M1 :=
  CI_ofW (own := RX8) (by decide +kernel) rfl rfl (Nat.le_of_ble_eq_true rfl) hl (ok_X8_init_0 hD hl a0 M h)
-- PatchbayScript$Program.<init>
def T_X6_init : List cRow := [(0, .aload_n 0, 1, 0), (1, .invokespecial 3, 4, 0), (4, .aload_n 0, 5, 0), (5, .iconst 4, 6, 0), (6, .newarray .int, 8, 0), (8, .putfield 9, 11, 0), (11, .return_, 12, 0)]
theorem T_X6_init_ok : T_X6_init.all (rowB cX6_init) = true := by decide +kernel
def PI_RX6 : cP := poL [] [] [(9, (5, 0, 22))] [] []
theorem PI_RX6_ok : pOK RX6 PI_RX6 := poL_ok (fun _ h => absurd h List.not_mem_nil) (fun _ h => absurd h List.not_mem_nil) (by decide +kernel) (List.forall_mem_cons.mpr ⟨tb_ok 74 (by decide +kernel), fun _ h => absurd h List.not_mem_nil⟩)
theorem nw_RX6_ok : nwOK RX6 PI_RX6 := by
  refine ⟨fun k q h => ?_, fun k t h => ?_⟩
  · exact nwL_ok (l := []) (fun _ h => absurd h List.not_mem_nil) h
  · exact anL_ok (l := []) (fun _ h => absurd h List.not_mem_nil) h
def na_X6_init : List (Nat × Nat) := [(11, 1)]
def ca_X6_init (F : Nat) : List (Nat × cFn cM) := [(11, n_obj)]
theorem ca_X6_init_ok {q : cL} {D : Nat} (hD : 1 ≤ D) (F : Nat) : ∀ x ∈ ca_X6_init F, 1 ≤ D ∧ ceI q RX6 (D - 1) x.1 x.2 := List.forall_mem_cons.mpr ⟨⟨by omega, n_obj_ok (k := 3) (List.forall_mem_cons.mpr ⟨lw_good_of (tb_ok 73 (by decide +kernel)) rfl, List.forall_mem_cons.mpr ⟨lw_good_of (tb_ok 28 (by decide +kernel)) rfl, List.forall_mem_cons.mpr ⟨lw_good_of (tb_ok 29 (by decide +kernel)) rfl, fun _ h => absurd h List.not_mem_nil⟩⟩⟩)⟩, fun _ h => absurd h List.not_mem_nil⟩
set_option maxRecDepth 20000 in
theorem e_X6_init_0 (F : Nat) (x0 : Nat) (M : cM) : b_X6_init_0 F x0 M = run T_X6_init PI_RX6 true 5 (naL na_X6_init) (caL (ca_X6_init F)) (lkN []) (lkN []) krV kxN (spL []) (KL []) 10 0 [some (.ref x0)] [] M := rfl
theorem ok_X6_init_0 {q : cL} {D : Nat} (hD : 1 ≤ D) {M0 M1 : cM} (hl : M0.length ≤ M1.length ∧ msz M0 ≤ msz M1) {F : Nat} : ∀ x0 M, f_X6_init_0 F x0 M = some M1 → WI q D 1 M0 M1 cX6_init RX6 0 [some (.ref x0)] [] M := by
  intro x0 M h
  exact segW_ok hl PI_RX6_ok nw_RX6_ok ar_ok T_X6_init_ok (ca_X6_init_ok hD F) (fun _ h => absurd h List.not_mem_nil) ((e_X6_init_0 F x0 M).symm.trans h)
theorem c_X6_init {q : cL} {D : Nat} (hD : 1 ≤ D) (F : Nat) (a0 : Nat) (M M1 : cM) (hl : M.length ≤ M1.length ∧ msz M ≤ msz M1) (h : f_X6_init F a0 M = some M1) : CI q yX6_init (.code yX6_init cX6_init 1 none) D [.ref a0] M M1 :=
  CI_ofW (own := RX6) (by decide +kernel) rfl rfl (Nat.le_of_ble_eq_true rfl) hl (ok_X6_init_0 hD hl a0 M h)
-- PatchbayScript$Finder.<init>
def T_X2_init : List cRow := [(0, .aload_n 0, 1, 0), (1, .invokespecial 11, 4, 0), (4, .aload_n 0, 5, 0), (5, .iconst 5, 6, 0), (6, .anewarray 17, 9, 0), (9, .putfield 19, 12, 0), (12, .aload_n 0, 13, 0), (13, .new 23, 16, 0), (16, .dup, 17, 0), (17, .invokespecial 25, 20, 0), (20, .putfield 26, 23, 0), (23, .aload_n 0, 24, 0), (24, .iconst 4, 25, 0), (25, .newarray .int, 27, 0), (27, .putfield 30, 30, 0), (30, .aload_n 0, 31, 0), (31, .iconst 4, 32, 0), (32, .newarray .int, 34, 0), (34, .putfield 34, 37, 0), (37, .aload_n 0, 38, 0), (38, .sipush 924, 41, 0), (41, .newarray .long, 43, 0), (43, .putfield 37, 46, 0), (46, .aload_n 0, 47, 0), (47, .sipush 2048, 50, 0), (50, .newarray .long, 52, 0), (52, .putfield 41, 55, 0), (55, .aload_n 0, 56, 0), (56, .sipush 2048, 59, 0), (59, .newarray .long, 61, 0), (61, .putfield 44, 64, 0), (64, .aload_n 0, 65, 0), (65, .bipush 20, 67, 0), (67, .newarray .int, 69, 0), (69, .putfield 47, 72, 0), (72, .aload_n 0, 73, 0), (73, .iconst 4, 74, 0), (74, .newarray .int, 76, 0), (76, .putfield 50, 79, 0), (79, .iconst 0, 80, 0), (80, .istore_n 1, 81, 0), (81, .iload_n 1, 82, 0), (82, .iconst 5, 83, 0), (83, .if_icmp .ge 22, 86, 105), (86, .aload_n 0, 87, 0), (87, .getfield 19, 90, 0), (90, .iload_n 1, 91, 0), (91, .new 17, 94, 0), (94, .dup, 95, 0), (95, .invokespecial 53, 98, 0), (98, .aastore, 99, 0), (99, .iinc 1 1, 102, 0), (102, .goto (-21), 105, 81), (105, .return_, 106, 0)]
theorem T_X2_init_ok : T_X2_init.all (rowB cX2_init) = true := by decide +kernel
def PI_RX2 : cP := poL [] [] [(19, (1, 0, 22)), (26, (1, 2, 22)), (30, (1, 5, 22)), (34, (1, 6, 22)), (37, (1, 8, 22)), (41, (1, 9, 22)), (44, (1, 10, 22)), (47, (1, 12, 22)), (50, (1, 13, 22))] [(17, (5, [.null, .int 0])), (23, (6, [.null, .null, .int 0, .null, .null, .null, .null, .int 0, .null, .null, .null, .int 0, .null, .null]))] [(17, 7)]
theorem PI_RX2_ok : pOK RX2 PI_RX2 := poL_ok (fun _ h => absurd h List.not_mem_nil) (fun _ h => absurd h List.not_mem_nil) (by decide +kernel) (List.forall_mem_cons.mpr ⟨tb_ok 301 (by decide +kernel), List.forall_mem_cons.mpr ⟨tb_ok 305 (by decide +kernel), List.forall_mem_cons.mpr ⟨tb_ok 308 (by decide +kernel), List.forall_mem_cons.mpr ⟨tb_ok 309 (by decide +kernel), List.forall_mem_cons.mpr ⟨tb_ok 311 (by decide +kernel), List.forall_mem_cons.mpr ⟨tb_ok 312 (by decide +kernel), List.forall_mem_cons.mpr ⟨tb_ok 313 (by decide +kernel), List.forall_mem_cons.mpr ⟨tb_ok 315 (by decide +kernel), List.forall_mem_cons.mpr ⟨tb_ok 316 (by decide +kernel), fun _ h => absurd h List.not_mem_nil⟩⟩⟩⟩⟩⟩⟩⟩⟩)
theorem nw_RX2_ok : nwOK RX2 PI_RX2 := by
  refine ⟨fun k q h => ?_, fun k t h => ?_⟩
  · exact nwL_ok (l := [(17, (5, [.null, .int 0])), (23, (6, [.null, .null, .int 0, .null, .null, .null, .null, .int 0, .null, .null, .null, .int 0, .null, .null]))]) (List.forall_mem_cons.mpr ⟨⟨RX6, TX6, 2, tyX6, rfl, lw_good_of (tb_ok 201 (by decide +kernel)) rfl, lw_good_of (tb_ok 69 (by decide +kernel)) rfl, lw_good_of (tb_ok 5 (by decide +kernel)) rfl, tyX6_ok, rfl, fun _ => rfl, by decide +kernel⟩, List.forall_mem_cons.mpr ⟨⟨RX8, TX8, 14, tyX8, rfl, lw_good_of (tb_ok 202 (by decide +kernel)) rfl, lw_good_of (tb_ok 203 (by decide +kernel)) rfl, lw_good_of (tb_ok 9 (by decide +kernel)) rfl, tyX8_ok, rfl, fun _ => rfl, by decide +kernel⟩, fun _ h => absurd h List.not_mem_nil⟩⟩) h
  · exact anL_ok (l := [(17, 7)]) (List.forall_mem_cons.mpr ⟨⟨by decide, by decide, _, rfl, lw_good_of (tb_ok 201 (by decide +kernel)) rfl⟩, fun _ h => absurd h List.not_mem_nil⟩) h
def na_X2_init : List (Nat × Nat) := [(35, 1), (77, 1), (161, 1)]
def ca_X2_init (F : Nat) : List (Nat × cFn cM) := [(35, n_obj), (77, n_ini (f_X8_init F)), (161, n_ini (f_X6_init F))]
theorem ca_X2_init_ok {q : cL} {D : Nat} (hD : 4 ≤ D) (F : Nat) : ∀ x ∈ ca_X2_init F, 1 ≤ D ∧ ceI q RX2 (D - 1) x.1 x.2 := List.forall_mem_cons.mpr ⟨⟨by omega, n_obj_ok (k := 11) (List.forall_mem_cons.mpr ⟨lw_good_of (tb_ok 200 (by decide +kernel)) rfl, List.forall_mem_cons.mpr ⟨lw_good_of (tb_ok 28 (by decide +kernel)) rfl, List.forall_mem_cons.mpr ⟨lw_good_of (tb_ok 29 (by decide +kernel)) rfl, fun _ h => absurd h List.not_mem_nil⟩⟩⟩)⟩, List.forall_mem_cons.mpr ⟨⟨by omega, n_ini_ok (k := 25) (host := "") (fun a M M' hl h => c_X8_init (by omega) F a M M' hl h) (Or.inr (lw_good_of (tb_ok 204 (by decide +kernel)) rfl)) (List.forall_mem_cons.mpr ⟨lw_good_of (tb_ok 205 (by decide +kernel)) rfl, List.forall_mem_cons.mpr ⟨lw_good_of (tb_ok 9 (by decide +kernel)) rfl, List.forall_mem_cons.mpr ⟨lw_good_of (tb_ok 206 (by decide +kernel)) rfl, fun _ h => absurd h List.not_mem_nil⟩⟩⟩) rfl ⟨by decide +kernel, by decide +kernel, by decide +kernel⟩ (by decide)⟩, List.forall_mem_cons.mpr ⟨⟨by omega, n_ini_ok (k := 53) (host := "PatchbayScript") (fun a M M' hl h => c_X6_init (by omega) F a M M' hl h) (Or.inl (List.mem_filter.mpr ⟨tb_ok 300 (by decide +kernel), rfl⟩)) (List.forall_mem_cons.mpr ⟨lw_good_of (tb_ok 71 (by decide +kernel)) rfl, List.forall_mem_cons.mpr ⟨lw_good_of (tb_ok 5 (by decide +kernel)) rfl, List.forall_mem_cons.mpr ⟨lw_good_of (tb_ok 72 (by decide +kernel)) rfl, fun _ h => absurd h List.not_mem_nil⟩⟩⟩) rfl ⟨by decide +kernel, by decide +kernel, by decide +kernel⟩ (by decide)⟩, fun _ h => absurd h List.not_mem_nil⟩⟩⟩
def kd_X2_init_37 (g : Nat → cM → Option (cM)) : cKf cM := fun vs st M => (lR vs 0).bind fun x0 => match st with
  | [] => g x0 M
  | _ => none
theorem kf_X2_init_37 {q : cL} {D : Nat} {M0 M1 : cM} {g : Nat → cM → Option (cM)} (hg : ∀ x0 M, g x0 M = some M1 → WI q D 2 M0 M1 cX2_init RX2 37 [some (.ref x0), none] [] M) : ∀ vs st M, kd_X2_init_37 g vs st M = some M1 → WI q D 2 M0 M1 cX2_init RX2 37 vs st M := by
  intro vs st M h
  unfold kd_X2_init_37 at h
  obtain ⟨x0, h0, h⟩ := Option.bind_eq_some_iff.mp h
  split at h
  · exact WI_weak (hg _ _ h) rfl ⟨lR_of h0, trivial⟩
  · cases h
def kd_X2_init_81 (g : Nat → Int32 → cM → Option (cM)) : cKf cM := fun vs st M => (lR vs 0).bind fun x0 => (lI vs 1).bind fun x1 => match st with
  | [] => g x0 x1 M
  | _ => none
theorem kf_X2_init_81 {q : cL} {D : Nat} {M0 M1 : cM} {g : Nat → Int32 → cM → Option (cM)} (hg : ∀ x0 x1 M, g x0 x1 M = some M1 → WI q D 2 M0 M1 cX2_init RX2 81 [some (.ref x0), some (.int x1)] [] M) : ∀ vs st M, kd_X2_init_81 g vs st M = some M1 → WI q D 2 M0 M1 cX2_init RX2 81 vs st M := by
  intro vs st M h
  unfold kd_X2_init_81 at h
  obtain ⟨x0, h0, h⟩ := Option.bind_eq_some_iff.mp h
  obtain ⟨x1, h1, h⟩ := Option.bind_eq_some_iff.mp h
  split at h
  · exact WI_weak (hg _ _ _ h) rfl ⟨lR_of h0, lI_of h1, trivial⟩
  · cases h
set_option maxRecDepth 20000 in
theorem e_X2_init_81 (F : Nat) (t81 : Nat → Int32 → cM → Option (cM)) (x0 : Nat) (x1 : Int32) (M : cM) : b_X2_init_81 F t81 x0 x1 M = run T_X2_init PI_RX2 true 5 (naL na_X2_init) (caL (ca_X2_init F)) (lkN []) (lkN []) krV kxN (spL [81]) (KL [(81, kd_X2_init_81 t81)]) 57 81 [some (.ref x0), some (.int x1)] [] M := rfl
theorem ok_X2_init_81 {q : cL} {D : Nat} (hD : 4 ≤ D) {M0 M1 : cM} (hl : M0.length ≤ M1.length ∧ msz M0 ≤ msz M1) {F : Nat} (n : Nat) : ∀ x0 x1 M, f_X2_init_81 F n x0 x1 M = some M1 → WI q D 2 M0 M1 cX2_init RX2 81 [some (.ref x0), some (.int x1)] [] M := by
  induction n with
  | zero => intro x0 x1 M h; cases h
  | succ n ih =>
    intro x0 x1 M h
    exact segW_ok hl PI_RX2_ok nw_RX2_ok ar_ok T_X2_init_ok (ca_X2_init_ok hD F) (List.forall_mem_cons.mpr ⟨kf_X2_init_81 (ih), fun _ h => absurd h List.not_mem_nil⟩) ((e_X2_init_81 F (f_X2_init_81 F n) x0 x1 M).symm.trans h)
set_option maxRecDepth 20000 in
theorem e_X2_init_37 (F : Nat) (t81 : Nat → Int32 → cM → Option (cM)) (x0 : Nat) (M : cM) : b_X2_init_37 F t81 x0 M = run T_X2_init PI_RX2 true 5 (naL na_X2_init) (caL (ca_X2_init F)) (lkN []) (lkN []) krV kxN (spL [81]) (KL [(81, kd_X2_init_81 t81)]) 57 37 [some (.ref x0), none] [] M := rfl
theorem ok_X2_init_37 {q : cL} {D : Nat} (hD : 4 ≤ D) {M0 M1 : cM} (hl : M0.length ≤ M1.length ∧ msz M0 ≤ msz M1) {F : Nat} : ∀ x0 M, f_X2_init_37 F x0 M = some M1 → WI q D 2 M0 M1 cX2_init RX2 37 [some (.ref x0), none] [] M := by
  intro x0 M h
  exact segW_ok hl PI_RX2_ok nw_RX2_ok ar_ok T_X2_init_ok (ca_X2_init_ok hD F) (List.forall_mem_cons.mpr ⟨kf_X2_init_81 (ok_X2_init_81 hD hl F), fun _ h => absurd h List.not_mem_nil⟩) ((e_X2_init_37 F (f_X2_init_81 F F) x0 M).symm.trans h)
set_option maxRecDepth 20000 in
theorem e_X2_init_0 (F : Nat) (t37 : Nat → cM → Option (cM)) (x0 : Nat) (M : cM) : b_X2_init_0 F t37 x0 M = run T_X2_init PI_RX2 true 5 (naL na_X2_init) (caL (ca_X2_init F)) (lkN []) (lkN []) krV kxN (spL [37]) (KL [(37, kd_X2_init_37 t37)]) 57 0 [some (.ref x0), none] [] M := rfl
theorem ok_X2_init_0 {q : cL} {D : Nat} (hD : 4 ≤ D) {M0 M1 : cM} (hl : M0.length ≤ M1.length ∧ msz M0 ≤ msz M1) {F : Nat} : ∀ x0 M, f_X2_init_0 F x0 M = some M1 → WI q D 2 M0 M1 cX2_init RX2 0 [some (.ref x0), none] [] M := by
  intro x0 M h
  exact segW_ok hl PI_RX2_ok nw_RX2_ok ar_ok T_X2_init_ok (ca_X2_init_ok hD F) (List.forall_mem_cons.mpr ⟨kf_X2_init_37 (ok_X2_init_37 hD hl), fun _ h => absurd h List.not_mem_nil⟩) ((e_X2_init_0 F (f_X2_init_37 F) x0 M).symm.trans h)
theorem c_X2_init {q : cL} {D : Nat} (hD : 4 ≤ D) (F : Nat) (a0 : Nat) (M M1 : cM) (hl : M.length ≤ M1.length ∧ msz M ≤ msz M1) (h : f_X2_init F a0 M = some M1) : CI q yX2_init (.code yX2_init cX2_init 2 none) D [.ref a0] M M1 :=
  CI_ofW (own := RX2) (by decide +kernel) rfl rfl (Nat.le_of_ble_eq_true rfl) hl (ok_X2_init_0 hD hl a0 M h)
-- PatchbayScript$Learner.<init>
def T_X3_init : List cRow := [(0, .aload_n 0, 1, 0), (1, .invokespecial 3, 4, 0), (4, .aload_n 0, 5, 0), (5, .new 9, 8, 0), (8, .dup, 9, 0), (9, .invokespecial 11, 12, 0), (12, .putfield 12, 15, 0), (15, .aload_n 0, 16, 0), (16, .bipush 16, 18, 0), (18, .anewarray 18, 21, 0), (21, .putfield 20, 24, 0), (24, .aload_n 0, 25, 0), (25, .bipush 16, 27, 0), (27, .newarray .int, 29, 0), (29, .putfield 24, 32, 0), (32, .aload_n 0, 33, 0), (33, .new 28, 36, 0), (36, .dup, 37, 0), (37, .invokespecial 30, 40, 0), (40, .putfield 31, 43, 0), (43, .aload_n 0, 44, 0), (44, .new 28, 47, 0), (47, .dup, 48, 0), (48, .invokespecial 30, 51, 0), (51, .putfield 35, 54, 0), (54, .iconst 0, 55, 0), (55, .istore_n 1, 56, 0), (56, .iload_n 1, 57, 0), (57, .bipush 16, 59, 0), (59, .if_icmp .ge 22, 62, 81), (62, .aload_n 0, 63, 0), (63, .getfield 20, 66, 0), (66, .iload_n 1, 67, 0), (67, .new 18, 70, 0), (70, .dup, 71, 0), (71, .invokespecial 38, 74, 0), (74, .aastore, 75, 0), (75, .iinc 1 1, 78, 0), (78, .goto (-22), 81, 56), (81, .return_, 82, 0)]
theorem T_X3_init_ok : T_X3_init.all (rowB cX3_init) = true := by decide +kernel
def PI_RX3 : cP := poL [] [] [(12, (2, 0, 22)), (20, (2, 1, 22)), (24, (2, 2, 22)), (31, (2, 3, 22)), (35, (2, 4, 22))] [(9, (1, [.null, .int 0, .null, .null, .int 0, .null, .null, .int 0, .null, .null, .null, .long 0, .null, .null])), (18, (5, [.null, .int 0])), (28, (8, [.null, .null, .int 0]))] [(18, 7)]
theorem PI_RX3_ok : pOK RX3 PI_RX3 := poL_ok (fun _ h => absurd h List.not_mem_nil) (fun _ h => absurd h List.not_mem_nil) (by decide +kernel) (List.forall_mem_cons.mpr ⟨tb_ok 351 (by decide +kernel), List.forall_mem_cons.mpr ⟨tb_ok 352 (by decide +kernel), List.forall_mem_cons.mpr ⟨tb_ok 353 (by decide +kernel), List.forall_mem_cons.mpr ⟨tb_ok 354 (by decide +kernel), List.forall_mem_cons.mpr ⟨tb_ok 355 (by decide +kernel), fun _ h => absurd h List.not_mem_nil⟩⟩⟩⟩⟩)
theorem nw_RX3_ok : nwOK RX3 PI_RX3 := by
  refine ⟨fun k q h => ?_, fun k t h => ?_⟩
  · exact nwL_ok (l := [(9, (1, [.null, .int 0, .null, .null, .int 0, .null, .null, .int 0, .null, .null, .null, .long 0, .null, .null])), (18, (5, [.null, .int 0])), (28, (8, [.null, .null, .int 0]))]) (List.forall_mem_cons.mpr ⟨⟨RX2, TX2, 14, tyX2, rfl, lw_good_of (tb_ok 195 (by decide +kernel)) rfl, lw_good_of (tb_ok 196 (by decide +kernel)) rfl, lw_good_of (tb_ok 8 (by decide +kernel)) rfl, tyX2_ok, rfl, fun _ => rfl, by decide +kernel⟩, List.forall_mem_cons.mpr ⟨⟨RX6, TX6, 2, tyX6, rfl, lw_good_of (tb_ok 347 (by decide +kernel)) rfl, lw_good_of (tb_ok 69 (by decide +kernel)) rfl, lw_good_of (tb_ok 5 (by decide +kernel)) rfl, tyX6_ok, rfl, fun _ => rfl, by decide +kernel⟩, List.forall_mem_cons.mpr ⟨⟨RX10, TX10, 3, tyX10, rfl, lw_good_of (tb_ok 348 (by decide +kernel)) rfl, lw_good_of (tb_ok 31 (by decide +kernel)) rfl, lw_good_of (tb_ok 2 (by decide +kernel)) rfl, tyX10_ok, rfl, fun _ => rfl, by decide +kernel⟩, fun _ h => absurd h List.not_mem_nil⟩⟩⟩) h
  · exact anL_ok (l := [(18, 7)]) (List.forall_mem_cons.mpr ⟨⟨by decide, by decide, _, rfl, lw_good_of (tb_ok 347 (by decide +kernel)) rfl⟩, fun _ h => absurd h List.not_mem_nil⟩) h
def na_X3_init : List (Nat × Nat) := [(11, 1), (35, 1), (92, 1), (116, 1)]
def ca_X3_init (F : Nat) : List (Nat × cFn cM) := [(11, n_obj), (35, n_ini (f_X2_init F)), (92, n_ini (f_X10_init F)), (116, n_ini (f_X6_init F))]
theorem ca_X3_init_ok {q : cL} {D : Nat} (hD : 5 ≤ D) (F : Nat) : ∀ x ∈ ca_X3_init F, 1 ≤ D ∧ ceI q RX3 (D - 1) x.1 x.2 := List.forall_mem_cons.mpr ⟨⟨by omega, n_obj_ok (k := 3) (List.forall_mem_cons.mpr ⟨lw_good_of (tb_ok 194 (by decide +kernel)) rfl, List.forall_mem_cons.mpr ⟨lw_good_of (tb_ok 28 (by decide +kernel)) rfl, List.forall_mem_cons.mpr ⟨lw_good_of (tb_ok 29 (by decide +kernel)) rfl, fun _ h => absurd h List.not_mem_nil⟩⟩⟩)⟩, List.forall_mem_cons.mpr ⟨⟨by omega, n_ini_ok (k := 11) (host := "") (fun a M M' hl h => c_X2_init (by omega) F a M M' hl h) (Or.inr (lw_good_of (tb_ok 197 (by decide +kernel)) rfl)) (List.forall_mem_cons.mpr ⟨lw_good_of (tb_ok 198 (by decide +kernel)) rfl, List.forall_mem_cons.mpr ⟨lw_good_of (tb_ok 8 (by decide +kernel)) rfl, List.forall_mem_cons.mpr ⟨lw_good_of (tb_ok 199 (by decide +kernel)) rfl, fun _ h => absurd h List.not_mem_nil⟩⟩⟩) rfl ⟨by decide +kernel, by decide +kernel, by decide +kernel⟩ (by decide)⟩, List.forall_mem_cons.mpr ⟨⟨by omega, n_ini_ok (k := 30) (host := "PatchbayScript") (fun a M M' hl h => c_X10_init (by omega) F a M M' hl h) (Or.inl (List.mem_filter.mpr ⟨tb_ok 349 (by decide +kernel), rfl⟩)) (List.forall_mem_cons.mpr ⟨lw_good_of (tb_ok 33 (by decide +kernel)) rfl, List.forall_mem_cons.mpr ⟨lw_good_of (tb_ok 2 (by decide +kernel)) rfl, List.forall_mem_cons.mpr ⟨lw_good_of (tb_ok 34 (by decide +kernel)) rfl, fun _ h => absurd h List.not_mem_nil⟩⟩⟩) rfl ⟨by decide +kernel, by decide +kernel, by decide +kernel⟩ (by decide)⟩, List.forall_mem_cons.mpr ⟨⟨by omega, n_ini_ok (k := 38) (host := "PatchbayScript") (fun a M M' hl h => c_X6_init (by omega) F a M M' hl h) (Or.inl (List.mem_filter.mpr ⟨tb_ok 350 (by decide +kernel), rfl⟩)) (List.forall_mem_cons.mpr ⟨lw_good_of (tb_ok 71 (by decide +kernel)) rfl, List.forall_mem_cons.mpr ⟨lw_good_of (tb_ok 5 (by decide +kernel)) rfl, List.forall_mem_cons.mpr ⟨lw_good_of (tb_ok 72 (by decide +kernel)) rfl, fun _ h => absurd h List.not_mem_nil⟩⟩⟩) rfl ⟨by decide +kernel, by decide +kernel, by decide +kernel⟩ (by decide)⟩, fun _ h => absurd h List.not_mem_nil⟩⟩⟩⟩
def kd_X3_init_24 (g : Nat → cM → Option (cM)) : cKf cM := fun vs st M => (lR vs 0).bind fun x0 => match st with
  | [] => g x0 M
  | _ => none
theorem kf_X3_init_24 {q : cL} {D : Nat} {M0 M1 : cM} {g : Nat → cM → Option (cM)} (hg : ∀ x0 M, g x0 M = some M1 → WI q D 2 M0 M1 cX3_init RX3 24 [some (.ref x0), none] [] M) : ∀ vs st M, kd_X3_init_24 g vs st M = some M1 → WI q D 2 M0 M1 cX3_init RX3 24 vs st M := by
  intro vs st M h
  unfold kd_X3_init_24 at h
  obtain ⟨x0, h0, h⟩ := Option.bind_eq_some_iff.mp h
  split at h
  · exact WI_weak (hg _ _ h) rfl ⟨lR_of h0, trivial⟩
  · cases h
def kd_X3_init_56 (g : Nat → Int32 → cM → Option (cM)) : cKf cM := fun vs st M => (lR vs 0).bind fun x0 => (lI vs 1).bind fun x1 => match st with
  | [] => g x0 x1 M
  | _ => none
theorem kf_X3_init_56 {q : cL} {D : Nat} {M0 M1 : cM} {g : Nat → Int32 → cM → Option (cM)} (hg : ∀ x0 x1 M, g x0 x1 M = some M1 → WI q D 2 M0 M1 cX3_init RX3 56 [some (.ref x0), some (.int x1)] [] M) : ∀ vs st M, kd_X3_init_56 g vs st M = some M1 → WI q D 2 M0 M1 cX3_init RX3 56 vs st M := by
  intro vs st M h
  unfold kd_X3_init_56 at h
  obtain ⟨x0, h0, h⟩ := Option.bind_eq_some_iff.mp h
  obtain ⟨x1, h1, h⟩ := Option.bind_eq_some_iff.mp h
  split at h
  · exact WI_weak (hg _ _ _ h) rfl ⟨lR_of h0, lI_of h1, trivial⟩
  · cases h
set_option maxRecDepth 20000 in
theorem e_X3_init_56 (F : Nat) (t56 : Nat → Int32 → cM → Option (cM)) (x0 : Nat) (x1 : Int32) (M : cM) : b_X3_init_56 F t56 x0 x1 M = run T_X3_init PI_RX3 true 5 (naL na_X3_init) (caL (ca_X3_init F)) (lkN []) (lkN []) krV kxN (spL [56]) (KL [(56, kd_X3_init_56 t56)]) 43 56 [some (.ref x0), some (.int x1)] [] M := rfl
theorem ok_X3_init_56 {q : cL} {D : Nat} (hD : 5 ≤ D) {M0 M1 : cM} (hl : M0.length ≤ M1.length ∧ msz M0 ≤ msz M1) {F : Nat} (n : Nat) : ∀ x0 x1 M, f_X3_init_56 F n x0 x1 M = some M1 → WI q D 2 M0 M1 cX3_init RX3 56 [some (.ref x0), some (.int x1)] [] M := by
  induction n with
  | zero => intro x0 x1 M h; cases h
  | succ n ih =>
    intro x0 x1 M h
    exact segW_ok hl PI_RX3_ok nw_RX3_ok ar_ok T_X3_init_ok (ca_X3_init_ok hD F) (List.forall_mem_cons.mpr ⟨kf_X3_init_56 (ih), fun _ h => absurd h List.not_mem_nil⟩) ((e_X3_init_56 F (f_X3_init_56 F n) x0 x1 M).symm.trans h)
set_option maxRecDepth 20000 in
theorem e_X3_init_24 (F : Nat) (t56 : Nat → Int32 → cM → Option (cM)) (x0 : Nat) (M : cM) : b_X3_init_24 F t56 x0 M = run T_X3_init PI_RX3 true 5 (naL na_X3_init) (caL (ca_X3_init F)) (lkN []) (lkN []) krV kxN (spL [56]) (KL [(56, kd_X3_init_56 t56)]) 43 24 [some (.ref x0), none] [] M := rfl
theorem ok_X3_init_24 {q : cL} {D : Nat} (hD : 5 ≤ D) {M0 M1 : cM} (hl : M0.length ≤ M1.length ∧ msz M0 ≤ msz M1) {F : Nat} : ∀ x0 M, f_X3_init_24 F x0 M = some M1 → WI q D 2 M0 M1 cX3_init RX3 24 [some (.ref x0), none] [] M := by
  intro x0 M h
  exact segW_ok hl PI_RX3_ok nw_RX3_ok ar_ok T_X3_init_ok (ca_X3_init_ok hD F) (List.forall_mem_cons.mpr ⟨kf_X3_init_56 (ok_X3_init_56 hD hl F), fun _ h => absurd h List.not_mem_nil⟩) ((e_X3_init_24 F (f_X3_init_56 F F) x0 M).symm.trans h)
set_option maxRecDepth 20000 in
theorem e_X3_init_0 (F : Nat) (t24 : Nat → cM → Option (cM)) (x0 : Nat) (M : cM) : b_X3_init_0 F t24 x0 M = run T_X3_init PI_RX3 true 5 (naL na_X3_init) (caL (ca_X3_init F)) (lkN []) (lkN []) krV kxN (spL [24]) (KL [(24, kd_X3_init_24 t24)]) 43 0 [some (.ref x0), none] [] M := rfl
theorem ok_X3_init_0 {q : cL} {D : Nat} (hD : 5 ≤ D) {M0 M1 : cM} (hl : M0.length ≤ M1.length ∧ msz M0 ≤ msz M1) {F : Nat} : ∀ x0 M, f_X3_init_0 F x0 M = some M1 → WI q D 2 M0 M1 cX3_init RX3 0 [some (.ref x0), none] [] M := by
  intro x0 M h
  exact segW_ok hl PI_RX3_ok nw_RX3_ok ar_ok T_X3_init_ok (ca_X3_init_ok hD F) (List.forall_mem_cons.mpr ⟨kf_X3_init_24 (ok_X3_init_24 hD hl), fun _ h => absurd h List.not_mem_nil⟩) ((e_X3_init_0 F (f_X3_init_24 F) x0 M).symm.trans h)
theorem c_X3_init {q : cL} {D : Nat} (hD : 5 ≤ D) (F : Nat) (a0 : Nat) (M M1 : cM) (hl : M.length ≤ M1.length ∧ msz M ≤ msz M1) (h : f_X3_init F a0 M = some M1) : CI q yX3_init (.code yX3_init cX3_init 2 none) D [.ref a0] M M1 :=
  CI_ofW (own := RX3) (by decide +kernel) rfl rfl (Nat.le_of_ble_eq_true rfl) hl (ok_X3_init_0 hD hl a0 M h)
-- PatchbayScript$Learnt.<init>
def T_X4_init : List cRow := [(0, .aload_n 0, 1, 0), (1, .invokespecial 3, 4, 0), (4, .aload_n 0, 5, 0), (5, .new 9, 8, 0), (8, .dup, 9, 0), (9, .invokespecial 11, 12, 0), (12, .putfield 12, 15, 0), (15, .aload_n 0, 16, 0), (16, .new 9, 19, 0), (19, .dup, 20, 0), (20, .invokespecial 11, 23, 0), (23, .putfield 18, 26, 0), (26, .aload_n 0, 27, 0), (27, .iconst (-1), 28, 0), (28, .putfield 21, 31, 0), (31, .return_, 32, 0)]
theorem T_X4_init_ok : T_X4_init.all (rowB cX4_init) = true := by decide +kernel
def PI_RX4 : cP := poL [] [] [(12, (3, 0, 22)), (18, (3, 1, 22)), (21, (3, 3, 0))] [(9, (5, [.null, .int 0]))] []
theorem PI_RX4_ok : pOK RX4 PI_RX4 := poL_ok (fun _ h => absurd h List.not_mem_nil) (fun _ h => absurd h List.not_mem_nil) (by decide +kernel) (List.forall_mem_cons.mpr ⟨tb_ok 83 (by decide +kernel), List.forall_mem_cons.mpr ⟨tb_ok 85 (by decide +kernel), List.forall_mem_cons.mpr ⟨tb_ok 90 (by decide +kernel), fun _ h => absurd h List.not_mem_nil⟩⟩⟩)
theorem nw_RX4_ok : nwOK RX4 PI_RX4 := by
  refine ⟨fun k q h => ?_, fun k t h => ?_⟩
  · exact nwL_ok (l := [(9, (5, [.null, .int 0]))]) (List.forall_mem_cons.mpr ⟨⟨RX6, TX6, 2, tyX6, rfl, lw_good_of (tb_ok 68 (by decide +kernel)) rfl, lw_good_of (tb_ok 69 (by decide +kernel)) rfl, lw_good_of (tb_ok 5 (by decide +kernel)) rfl, tyX6_ok, rfl, fun _ => rfl, by decide +kernel⟩, fun _ h => absurd h List.not_mem_nil⟩) h
  · exact anL_ok (l := []) (fun _ h => absurd h List.not_mem_nil) h
def na_X4_init : List (Nat × Nat) := [(11, 1), (35, 1)]
def ca_X4_init (F : Nat) : List (Nat × cFn cM) := [(11, n_obj), (35, n_ini (f_X6_init F))]
theorem ca_X4_init_ok {q : cL} {D : Nat} (hD : 2 ≤ D) (F : Nat) : ∀ x ∈ ca_X4_init F, 1 ≤ D ∧ ceI q RX4 (D - 1) x.1 x.2 := List.forall_mem_cons.mpr ⟨⟨by omega, n_obj_ok (k := 3) (List.forall_mem_cons.mpr ⟨lw_good_of (tb_ok 67 (by decide +kernel)) rfl, List.forall_mem_cons.mpr ⟨lw_good_of (tb_ok 28 (by decide +kernel)) rfl, List.forall_mem_cons.mpr ⟨lw_good_of (tb_ok 29 (by decide +kernel)) rfl, fun _ h => absurd h List.not_mem_nil⟩⟩⟩)⟩, List.forall_mem_cons.mpr ⟨⟨by omega, n_ini_ok (k := 11) (host := "PatchbayScript") (fun a M M' hl h => c_X6_init (by omega) F a M M' hl h) (Or.inl (List.mem_filter.mpr ⟨tb_ok 70 (by decide +kernel), rfl⟩)) (List.forall_mem_cons.mpr ⟨lw_good_of (tb_ok 71 (by decide +kernel)) rfl, List.forall_mem_cons.mpr ⟨lw_good_of (tb_ok 5 (by decide +kernel)) rfl, List.forall_mem_cons.mpr ⟨lw_good_of (tb_ok 72 (by decide +kernel)) rfl, fun _ h => absurd h List.not_mem_nil⟩⟩⟩) rfl ⟨by decide +kernel, by decide +kernel, by decide +kernel⟩ (by decide)⟩, fun _ h => absurd h List.not_mem_nil⟩⟩
set_option maxRecDepth 20000 in
theorem e_X4_init_0 (F : Nat) (x0 : Nat) (M : cM) : b_X4_init_0 F x0 M = run T_X4_init PI_RX4 true 5 (naL na_X4_init) (caL (ca_X4_init F)) (lkN []) (lkN []) krV kxN (spL []) (KL []) 19 0 [some (.ref x0)] [] M := rfl
theorem ok_X4_init_0 {q : cL} {D : Nat} (hD : 2 ≤ D) {M0 M1 : cM} (hl : M0.length ≤ M1.length ∧ msz M0 ≤ msz M1) {F : Nat} : ∀ x0 M, f_X4_init_0 F x0 M = some M1 → WI q D 1 M0 M1 cX4_init RX4 0 [some (.ref x0)] [] M := by
  intro x0 M h
  exact segW_ok hl PI_RX4_ok nw_RX4_ok ar_ok T_X4_init_ok (ca_X4_init_ok hD F) (fun _ h => absurd h List.not_mem_nil) ((e_X4_init_0 F x0 M).symm.trans h)
theorem c_X4_init {q : cL} {D : Nat} (hD : 2 ≤ D) (F : Nat) (a0 : Nat) (M M1 : cM) (hl : M.length ≤ M1.length ∧ msz M ≤ msz M1) (h : f_X4_init F a0 M = some M1) : CI q yX4_init (.code yX4_init cX4_init 1 none) D [.ref a0] M M1 :=
  CI_ofW (own := RX4) (by decide +kernel) rfl rfl (Nat.le_of_ble_eq_true rfl) hl (ok_X4_init_0 hD hl a0 M h)
-- PatchbayScript$Line.<init>
def T_X5_init : List cRow := [(0, .aload_n 0, 1, 0), (1, .invokespecial 3, 4, 0), (4, .aload_n 0, 5, 0), (5, .new 9, 8, 0), (8, .dup, 9, 0), (9, .invokespecial 11, 12, 0), (12, .putfield 12, 15, 0), (15, .aload_n 0, 16, 0), (16, .new 9, 19, 0), (19, .dup, 20, 0), (20, .invokespecial 11, 23, 0), (23, .putfield 18, 26, 0), (26, .aload_n 0, 27, 0), (27, .bipush 33, 29, 0), (29, .newarray .int, 31, 0), (31, .putfield 21, 34, 0), (34, .return_, 35, 0)]
theorem T_X5_init_ok : T_X5_init.all (rowB cX5_init) = true := by decide +kernel
def PI_RX5 : cP := poL [] [] [(12, (4, 0, 22)), (18, (4, 1, 22)), (21, (4, 2, 22))] [(9, (8, [.null, .null, .int 0]))] []
theorem PI_RX5_ok : pOK RX5 PI_RX5 := poL_ok (fun _ h => absurd h List.not_mem_nil) (fun _ h => absurd h List.not_mem_nil) (by decide +kernel) (List.forall_mem_cons.mpr ⟨tb_ok 169 (by decide +kernel), List.forall_mem_cons.mpr ⟨tb_ok 171 (by decide +kernel), List.forall_mem_cons.mpr ⟨tb_ok 173 (by decide +kernel), fun _ h => absurd h List.not_mem_nil⟩⟩⟩)
theorem nw_RX5_ok : nwOK RX5 PI_RX5 := by
  refine ⟨fun k q h => ?_, fun k t h => ?_⟩
  · exact nwL_ok (l := [(9, (8, [.null, .null, .int 0]))]) (List.forall_mem_cons.mpr ⟨⟨RX10, TX10, 3, tyX10, rfl, lw_good_of (tb_ok 167 (by decide +kernel)) rfl, lw_good_of (tb_ok 31 (by decide +kernel)) rfl, lw_good_of (tb_ok 2 (by decide +kernel)) rfl, tyX10_ok, rfl, fun _ => rfl, by decide +kernel⟩, fun _ h => absurd h List.not_mem_nil⟩) h
  · exact anL_ok (l := []) (fun _ h => absurd h List.not_mem_nil) h
def na_X5_init : List (Nat × Nat) := [(11, 1), (35, 1)]
def ca_X5_init (F : Nat) : List (Nat × cFn cM) := [(11, n_obj), (35, n_ini (f_X10_init F))]
theorem ca_X5_init_ok {q : cL} {D : Nat} (hD : 2 ≤ D) (F : Nat) : ∀ x ∈ ca_X5_init F, 1 ≤ D ∧ ceI q RX5 (D - 1) x.1 x.2 := List.forall_mem_cons.mpr ⟨⟨by omega, n_obj_ok (k := 3) (List.forall_mem_cons.mpr ⟨lw_good_of (tb_ok 166 (by decide +kernel)) rfl, List.forall_mem_cons.mpr ⟨lw_good_of (tb_ok 28 (by decide +kernel)) rfl, List.forall_mem_cons.mpr ⟨lw_good_of (tb_ok 29 (by decide +kernel)) rfl, fun _ h => absurd h List.not_mem_nil⟩⟩⟩)⟩, List.forall_mem_cons.mpr ⟨⟨by omega, n_ini_ok (k := 11) (host := "PatchbayScript") (fun a M M' hl h => c_X10_init (by omega) F a M M' hl h) (Or.inl (List.mem_filter.mpr ⟨tb_ok 168 (by decide +kernel), rfl⟩)) (List.forall_mem_cons.mpr ⟨lw_good_of (tb_ok 33 (by decide +kernel)) rfl, List.forall_mem_cons.mpr ⟨lw_good_of (tb_ok 2 (by decide +kernel)) rfl, List.forall_mem_cons.mpr ⟨lw_good_of (tb_ok 34 (by decide +kernel)) rfl, fun _ h => absurd h List.not_mem_nil⟩⟩⟩) rfl ⟨by decide +kernel, by decide +kernel, by decide +kernel⟩ (by decide)⟩, fun _ h => absurd h List.not_mem_nil⟩⟩
set_option maxRecDepth 20000 in
theorem e_X5_init_0 (F : Nat) (x0 : Nat) (M : cM) : b_X5_init_0 F x0 M = run T_X5_init PI_RX5 true 5 (naL na_X5_init) (caL (ca_X5_init F)) (lkN []) (lkN []) krV kxN (spL []) (KL []) 20 0 [some (.ref x0)] [] M := rfl
theorem ok_X5_init_0 {q : cL} {D : Nat} (hD : 2 ≤ D) {M0 M1 : cM} (hl : M0.length ≤ M1.length ∧ msz M0 ≤ msz M1) {F : Nat} : ∀ x0 M, f_X5_init_0 F x0 M = some M1 → WI q D 1 M0 M1 cX5_init RX5 0 [some (.ref x0)] [] M := by
  intro x0 M h
  exact segW_ok hl PI_RX5_ok nw_RX5_ok ar_ok T_X5_init_ok (ca_X5_init_ok hD F) (fun _ h => absurd h List.not_mem_nil) ((e_X5_init_0 F x0 M).symm.trans h)
theorem c_X5_init {q : cL} {D : Nat} (hD : 2 ≤ D) (F : Nat) (a0 : Nat) (M M1 : cM) (hl : M.length ≤ M1.length ∧ msz M ≤ msz M1) (h : f_X5_init F a0 M = some M1) : CI q yX5_init (.code yX5_init cX5_init 1 none) D [.ref a0] M M1 :=
  CI_ofW (own := RX5) (by decide +kernel) rfl rfl (Nat.le_of_ble_eq_true rfl) hl (ok_X5_init_0 hD hl a0 M h)
-- PatchbayScript$Task.<init>
def T_X9_init : List cRow := [(0, .aload_n 0, 1, 0), (1, .invokespecial 3, 4, 0), (4, .aload_n 0, 5, 0), (5, .iconst 4, 6, 0), (6, .anewarray 11, 9, 0), (9, .putfield 13, 12, 0), (12, .aload_n 0, 13, 0), (13, .iconst 4, 14, 0), (14, .anewarray 11, 17, 0), (17, .putfield 17, 20, 0), (20, .aload_n 0, 21, 0), (21, .iconst 4, 22, 0), (22, .newarray .int, 24, 0), (24, .putfield 20, 27, 0), (27, .aload_n 0, 28, 0), (28, .iconst 4, 29, 0), (29, .anewarray 11, 32, 0), (32, .putfield 24, 35, 0), (35, .aload_n 0, 36, 0), (36, .iconst 4, 37, 0), (37, .anewarray 11, 40, 0), (40, .putfield 27, 43, 0), (43, .aload_n 0, 44, 0), (44, .iconst 4, 45, 0), (45, .newarray .int, 47, 0), (47, .putfield 30, 50, 0), (50, .aload_n 0, 51, 0), (51, .new 33, 54, 0), (54, .dup, 55, 0), (55, .invokespecial 35, 58, 0), (58, .putfield 36, 61, 0), (61, .aload_n 0, 62, 0), (62, .iconst 5, 63, 0), (63, .anewarray 40, 66, 0), (66, .putfield 42, 69, 0), (69, .iconst 0, 70, 0), (70, .istore_n 1, 71, 0), (71, .iload_n 1, 72, 0), (72, .iconst 4, 73, 0), (73, .if_icmp .ge 61, 76, 134), (76, .aload_n 0, 77, 0), (77, .getfield 13, 80, 0), (80, .iload_n 1, 81, 0), (81, .new 11, 84, 0), (84, .dup, 85, 0), (85, .invokespecial 46, 88, 0), (88, .aastore, 89, 0), (89, .aload_n 0, 90, 0), (90, .getfield 17, 93, 0), (93, .iload_n 1, 94, 0), (94, .new 11, 97, 0), (97, .dup, 98, 0), (98, .invokespecial 46, 101, 0), (101, .aastore, 102, 0), (102, .aload_n 0, 103, 0), (103, .getfield 24, 106, 0), (106, .iload_n 1, 107, 0), (107, .new 11, 110, 0), (110, .dup, 111, 0), (111, .invokespecial 46, 114, 0), (114, .aastore, 115, 0), (115, .aload_n 0, 116, 0), (116, .getfield 27, 119, 0), (119, .iload_n 1, 120, 0), (120, .new 11, 123, 0), (123, .dup, 124, 0), (124, .invokespecial 46, 127, 0), (127, .aastore, 128, 0), (128, .iinc 1 1, 131, 0), (131, .goto (-60), 134, 71), (134, .iconst 0, 135, 0), (135, .istore_n 1, 136, 0), (136, .iload_n 1, 137, 0), (137, .iconst 4, 138, 0), (138, .if_icmp .ge 16, 141, 154), (141, .aload_n 0, 142, 0), (142, .getfield 30, 145, 0), (145, .iload_n 1, 146, 0), (146, .iconst (-1), 147, 0), (147, .iastore, 148, 0), (148, .iinc 1 1, 151, 0), (151, .goto (-15), 154, 136), (154, .iconst 0, 155, 0), (155, .istore_n 1, 156, 0), (156, .iload_n 1, 157, 0), (157, .iconst 5, 158, 0), (158, .if_icmp .ge 22, 161, 180), (161, .aload_n 0, 162, 0), (162, .getfield 42, 165, 0), (165, .iload_n 1, 166, 0), (166, .new 40, 169, 0), (169, .dup, 170, 0), (170, .invokespecial 47, 173, 0), (173, .aastore, 174, 0), (174, .iinc 1 1, 177, 0), (177, .goto (-21), 180, 156), (180, .return_, 181, 0)]
theorem T_X9_init_ok : T_X9_init.all (rowB cX9_init) = true := by decide +kernel
def PI_RX9 : cP := poL [] [] [(13, (7, 0, 22)), (17, (7, 1, 22)), (20, (7, 2, 22)), (24, (7, 4, 22)), (27, (7, 5, 22)), (30, (7, 7, 22)), (36, (7, 8, 22)), (42, (7, 10, 22))] [(11, (8, [.null, .null, .int 0])), (33, (3, [.null, .null, .int 0, .int 0])), (40, (5, [.null, .int 0]))] [(11, 9), (40, 7)]
theorem PI_RX9_ok : pOK RX9 PI_RX9 := poL_ok (fun _ h => absurd h List.not_mem_nil) (fun _ h => absurd h List.not_mem_nil) (by decide +kernel) (List.forall_mem_cons.mpr ⟨tb_ok 105 (by decide +kernel), List.forall_mem_cons.mpr ⟨tb_ok 108 (by decide +kernel), List.forall_mem_cons.mpr ⟨tb_ok 111 (by decide +kernel), List.forall_mem_cons.mpr ⟨tb_ok 116 (by decide +kernel), List.forall_mem_cons.mpr ⟨tb_ok 117 (by decide +kernel), List.forall_mem_cons.mpr ⟨tb_ok 120 (by decide +kernel), List.forall_mem_cons.mpr ⟨tb_ok 122 (by decide +kernel), List.forall_mem_cons.mpr ⟨tb_ok 126 (by decide +kernel), fun _ h => absurd h List.not_mem_nil⟩⟩⟩⟩⟩⟩⟩⟩)
theorem nw_RX9_ok : nwOK RX9 PI_RX9 := by
  refine ⟨fun k q h => ?_, fun k t h => ?_⟩
  · exact nwL_ok (l := [(11, (8, [.null, .null, .int 0])), (33, (3, [.null, .null, .int 0, .int 0])), (40, (5, [.null, .int 0]))]) (List.forall_mem_cons.mpr ⟨⟨RX10, TX10, 3, tyX10, rfl, lw_good_of (tb_ok 60 (by decide +kernel)) rfl, lw_good_of (tb_ok 31 (by decide +kernel)) rfl, lw_good_of (tb_ok 2 (by decide +kernel)) rfl, tyX10_ok, rfl, fun _ => rfl, by decide +kernel⟩, List.forall_mem_cons.mpr ⟨⟨RX4, TX4, 4, tyX4, rfl, lw_good_of (tb_ok 62 (by decide +kernel)) rfl, lw_good_of (tb_ok 63 (by decide +kernel)) rfl, lw_good_of (tb_ok 4 (by decide +kernel)) rfl, tyX4_ok, rfl, fun _ => rfl, by decide +kernel⟩, List.forall_mem_cons.mpr ⟨⟨RX6, TX6, 2, tyX6, rfl, lw_good_of (tb_ok 101 (by decide +kernel)) rfl, lw_good_of (tb_ok 69 (by decide +kernel)) rfl, lw_good_of (tb_ok 5 (by decide +kernel)) rfl, tyX6_ok, rfl, fun _ => rfl, by decide +kernel⟩, fun _ h => absurd h List.not_mem_nil⟩⟩⟩) h
  · exact anL_ok (l := [(11, 9), (40, 7)]) (List.forall_mem_cons.mpr ⟨⟨by decide, by decide, _, rfl, lw_good_of (tb_ok 60 (by decide +kernel)) rfl⟩, List.forall_mem_cons.mpr ⟨⟨by decide, by decide, _, rfl, lw_good_of (tb_ok 101 (by decide +kernel)) rfl⟩, fun _ h => absurd h List.not_mem_nil⟩⟩) h
def na_X9_init : List (Nat × Nat) := [(11, 1), (107, 1), (140, 1), (143, 1)]
def ca_X9_init (F : Nat) : List (Nat × cFn cM) := [(11, n_obj), (107, n_ini (f_X4_init F)), (140, n_ini (f_X10_init F)), (143, n_ini (f_X6_init F))]
theorem ca_X9_init_ok {q : cL} {D : Nat} (hD : 3 ≤ D) (F : Nat) : ∀ x ∈ ca_X9_init F, 1 ≤ D ∧ ceI q RX9 (D - 1) x.1 x.2 := List.forall_mem_cons.mpr ⟨⟨by omega, n_obj_ok (k := 3) (List.forall_mem_cons.mpr ⟨lw_good_of (tb_ok 59 (by decide +kernel)) rfl, List.forall_mem_cons.mpr ⟨lw_good_of (tb_ok 28 (by decide +kernel)) rfl, List.forall_mem_cons.mpr ⟨lw_good_of (tb_ok 29 (by decide +kernel)) rfl, fun _ h => absurd h List.not_mem_nil⟩⟩⟩)⟩, List.forall_mem_cons.mpr ⟨⟨by omega, n_ini_ok (k := 35) (host := "PatchbayScript") (fun a M M' hl h => c_X4_init (by omega) F a M M' hl h) (Or.inl (List.mem_filter.mpr ⟨tb_ok 64 (by decide +kernel), rfl⟩)) (List.forall_mem_cons.mpr ⟨lw_good_of (tb_ok 65 (by decide +kernel)) rfl, List.forall_mem_cons.mpr ⟨lw_good_of (tb_ok 4 (by decide +kernel)) rfl, List.forall_mem_cons.mpr ⟨lw_good_of (tb_ok 66 (by decide +kernel)) rfl, fun _ h => absurd h List.not_mem_nil⟩⟩⟩) rfl ⟨by decide +kernel, by decide +kernel, by decide +kernel⟩ (by decide)⟩, List.forall_mem_cons.mpr ⟨⟨by omega, n_ini_ok (k := 46) (host := "PatchbayScript") (fun a M M' hl h => c_X10_init (by omega) F a M M' hl h) (Or.inl (List.mem_filter.mpr ⟨tb_ok 103 (by decide +kernel), rfl⟩)) (List.forall_mem_cons.mpr ⟨lw_good_of (tb_ok 33 (by decide +kernel)) rfl, List.forall_mem_cons.mpr ⟨lw_good_of (tb_ok 2 (by decide +kernel)) rfl, List.forall_mem_cons.mpr ⟨lw_good_of (tb_ok 34 (by decide +kernel)) rfl, fun _ h => absurd h List.not_mem_nil⟩⟩⟩) rfl ⟨by decide +kernel, by decide +kernel, by decide +kernel⟩ (by decide)⟩, List.forall_mem_cons.mpr ⟨⟨by omega, n_ini_ok (k := 47) (host := "PatchbayScript") (fun a M M' hl h => c_X6_init (by omega) F a M M' hl h) (Or.inl (List.mem_filter.mpr ⟨tb_ok 104 (by decide +kernel), rfl⟩)) (List.forall_mem_cons.mpr ⟨lw_good_of (tb_ok 71 (by decide +kernel)) rfl, List.forall_mem_cons.mpr ⟨lw_good_of (tb_ok 5 (by decide +kernel)) rfl, List.forall_mem_cons.mpr ⟨lw_good_of (tb_ok 72 (by decide +kernel)) rfl, fun _ h => absurd h List.not_mem_nil⟩⟩⟩) rfl ⟨by decide +kernel, by decide +kernel, by decide +kernel⟩ (by decide)⟩, fun _ h => absurd h List.not_mem_nil⟩⟩⟩⟩
def kd_X9_init_35 (g : Nat → cM → Option (cM)) : cKf cM := fun vs st M => (lR vs 0).bind fun x0 => match st with
  | [] => g x0 M
  | _ => none
theorem kf_X9_init_35 {q : cL} {D : Nat} {M0 M1 : cM} {g : Nat → cM → Option (cM)} (hg : ∀ x0 M, g x0 M = some M1 → WI q D 2 M0 M1 cX9_init RX9 35 [some (.ref x0), none] [] M) : ∀ vs st M, kd_X9_init_35 g vs st M = some M1 → WI q D 2 M0 M1 cX9_init RX9 35 vs st M := by
  intro vs st M h
  unfold kd_X9_init_35 at h
  obtain ⟨x0, h0, h⟩ := Option.bind_eq_some_iff.mp h
  split at h
  · exact WI_weak (hg _ _ h) rfl ⟨lR_of h0, trivial⟩
  · cases h
def kd_X9_init_71 (g : Nat → Int32 → cM → Option (cM)) : cKf cM := fun vs st M => (lR vs 0).bind fun x0 => (lI vs 1).bind fun x1 => match st with
  | [] => g x0 x1 M
  | _ => none
theorem kf_X9_init_71 {q : cL} {D : Nat} {M0 M1 : cM} {g : Nat → Int32 → cM → Option (cM)} (hg : ∀ x0 x1 M, g x0 x1 M = some M1 → WI q D 2 M0 M1 cX9_init RX9 71 [some (.ref x0), some (.int x1)] [] M) : ∀ vs st M, kd_X9_init_71 g vs st M = some M1 → WI q D 2 M0 M1 cX9_init RX9 71 vs st M := by
  intro vs st M h
  unfold kd_X9_init_71 at h
  obtain ⟨x0, h0, h⟩ := Option.bind_eq_some_iff.mp h
  obtain ⟨x1, h1, h⟩ := Option.bind_eq_some_iff.mp h
  split at h
  · exact WI_weak (hg _ _ _ h) rfl ⟨lR_of h0, lI_of h1, trivial⟩
  · cases h
def kd_X9_init_102 (g : Nat → Int32 → cM → Option (cM)) : cKf cM := fun vs st M => (lR vs 0).bind fun x0 => (lI vs 1).bind fun x1 => match st with
  | [] => g x0 x1 M
  | _ => none
theorem kf_X9_init_102 {q : cL} {D : Nat} {M0 M1 : cM} {g : Nat → Int32 → cM → Option (cM)} (hg : ∀ x0 x1 M, g x0 x1 M = some M1 → WI q D 2 M0 M1 cX9_init RX9 102 [some (.ref x0), some (.int x1)] [] M) : ∀ vs st M, kd_X9_init_102 g vs st M = some M1 → WI q D 2 M0 M1 cX9_init RX9 102 vs st M := by
  intro vs st M h
  unfold kd_X9_init_102 at h
  obtain ⟨x0, h0, h⟩ := Option.bind_eq_some_iff.mp h
  obtain ⟨x1, h1, h⟩ := Option.bind_eq_some_iff.mp h
  split at h
  · exact WI_weak (hg _ _ _ h) rfl ⟨lR_of h0, lI_of h1, trivial⟩
  · cases h
def kd_X9_init_136 (g : Nat → Int32 → cM → Option (cM)) : cKf cM := fun vs st M => (lR vs 0).bind fun x0 => (lI vs 1).bind fun x1 => match st with
  | [] => g x0 x1 M
  | _ => none
theorem kf_X9_init_136 {q : cL} {D : Nat} {M0 M1 : cM} {g : Nat → Int32 → cM → Option (cM)} (hg : ∀ x0 x1 M, g x0 x1 M = some M1 → WI q D 2 M0 M1 cX9_init RX9 136 [some (.ref x0), some (.int x1)] [] M) : ∀ vs st M, kd_X9_init_136 g vs st M = some M1 → WI q D 2 M0 M1 cX9_init RX9 136 vs st M := by
  intro vs st M h
  unfold kd_X9_init_136 at h
  obtain ⟨x0, h0, h⟩ := Option.bind_eq_some_iff.mp h
  obtain ⟨x1, h1, h⟩ := Option.bind_eq_some_iff.mp h
  split at h
  · exact WI_weak (hg _ _ _ h) rfl ⟨lR_of h0, lI_of h1, trivial⟩
  · cases h
def kd_X9_init_156 (g : Nat → Int32 → cM → Option (cM)) : cKf cM := fun vs st M => (lR vs 0).bind fun x0 => (lI vs 1).bind fun x1 => match st with
  | [] => g x0 x1 M
  | _ => none
theorem kf_X9_init_156 {q : cL} {D : Nat} {M0 M1 : cM} {g : Nat → Int32 → cM → Option (cM)} (hg : ∀ x0 x1 M, g x0 x1 M = some M1 → WI q D 2 M0 M1 cX9_init RX9 156 [some (.ref x0), some (.int x1)] [] M) : ∀ vs st M, kd_X9_init_156 g vs st M = some M1 → WI q D 2 M0 M1 cX9_init RX9 156 vs st M := by
  intro vs st M h
  unfold kd_X9_init_156 at h
  obtain ⟨x0, h0, h⟩ := Option.bind_eq_some_iff.mp h
  obtain ⟨x1, h1, h⟩ := Option.bind_eq_some_iff.mp h
  split at h
  · exact WI_weak (hg _ _ _ h) rfl ⟨lR_of h0, lI_of h1, trivial⟩
  · cases h
set_option maxRecDepth 20000 in
theorem e_X9_init_156 (F : Nat) (t156 : Nat → Int32 → cM → Option (cM)) (x0 : Nat) (x1 : Int32) (M : cM) : b_X9_init_156 F t156 x0 x1 M = run T_X9_init PI_RX9 true 5 (naL na_X9_init) (caL (ca_X9_init F)) (lkN []) (lkN []) krV kxN (spL [156]) (KL [(156, kd_X9_init_156 t156)]) 100 156 [some (.ref x0), some (.int x1)] [] M := rfl
theorem ok_X9_init_156 {q : cL} {D : Nat} (hD : 3 ≤ D) {M0 M1 : cM} (hl : M0.length ≤ M1.length ∧ msz M0 ≤ msz M1) {F : Nat} (n : Nat) : ∀ x0 x1 M, f_X9_init_156 F n x0 x1 M = some M1 → WI q D 2 M0 M1 cX9_init RX9 156 [some (.ref x0), some (.int x1)] [] M := by
  induction n with
  | zero => intro x0 x1 M h; cases h
  | succ n ih =>
    intro x0 x1 M h
    exact segW_ok hl PI_RX9_ok nw_RX9_ok ar_ok T_X9_init_ok (ca_X9_init_ok hD F) (List.forall_mem_cons.mpr ⟨kf_X9_init_156 (ih), fun _ h => absurd h List.not_mem_nil⟩) ((e_X9_init_156 F (f_X9_init_156 F n) x0 x1 M).symm.trans h)
set_option maxRecDepth 20000 in
theorem e_X9_init_136 (F : Nat) (t136 : Nat → Int32 → cM → Option (cM)) (t156 : Nat → Int32 → cM → Option (cM)) (x0 : Nat) (x1 : Int32) (M : cM) : b_X9_init_136 F t136 t156 x0 x1 M = run T_X9_init PI_RX9 true 5 (naL na_X9_init) (caL (ca_X9_init F)) (lkN []) (lkN []) krV kxN (spL [136, 156]) (KL [(136, kd_X9_init_136 t136), (156, kd_X9_init_156 t156)]) 100 136 [some (.ref x0), some (.int x1)] [] M := rfl
theorem ok_X9_init_136 {q : cL} {D : Nat} (hD : 3 ≤ D) {M0 M1 : cM} (hl : M0.length ≤ M1.length ∧ msz M0 ≤ msz M1) {F : Nat} (n : Nat) : ∀ x0 x1 M, f_X9_init_136 F n x0 x1 M = some M1 → WI q D 2 M0 M1 cX9_init RX9 136 [some (.ref x0), some (.int x1)] [] M := by
  induction n with
  | zero => intro x0 x1 M h; cases h
  | succ n ih =>
    intro x0 x1 M h
    exact segW_ok hl PI_RX9_ok nw_RX9_ok ar_ok T_X9_init_ok (ca_X9_init_ok hD F) (List.forall_mem_cons.mpr ⟨kf_X9_init_136 (ih), List.forall_mem_cons.mpr ⟨kf_X9_init_156 (ok_X9_init_156 hD hl F), fun _ h => absurd h List.not_mem_nil⟩⟩) ((e_X9_init_136 F (f_X9_init_136 F n) (f_X9_init_156 F F) x0 x1 M).symm.trans h)
set_option maxRecDepth 20000 in
theorem e_X9_init_102 (F : Nat) (t71 : Nat → Int32 → cM → Option (cM)) (x0 : Nat) (x1 : Int32) (M : cM) : b_X9_init_102 F t71 x0 x1 M = run T_X9_init PI_RX9 true 5 (naL na_X9_init) (caL (ca_X9_init F)) (lkN []) (lkN []) krV kxN (spL [71]) (KL [(71, kd_X9_init_71 t71)]) 100 102 [some (.ref x0), some (.int x1)] [] M := rfl
theorem ok_X9_init_102 {q : cL} {D : Nat} (hD : 3 ≤ D) {M0 M1 : cM} (hl : M0.length ≤ M1.length ∧ msz M0 ≤ msz M1) {F : Nat} (k71 : Nat → Int32 → cM → Option (cM)) (hk71 : ∀ x0 x1 M, k71 x0 x1 M = some M1 → WI q D 2 M0 M1 cX9_init RX9 71 [some (.ref x0), some (.int x1)] [] M) : ∀ x0 x1 M, f_X9_init_102 F k71 x0 x1 M = some M1 → WI q D 2 M0 M1 cX9_init RX9 102 [some (.ref x0), some (.int x1)] [] M := by
  intro x0 x1 M h
  exact segW_ok hl PI_RX9_ok nw_RX9_ok ar_ok T_X9_init_ok (ca_X9_init_ok hD F) (List.forall_mem_cons.mpr ⟨kf_X9_init_71 (hk71), fun _ h => absurd h List.not_mem_nil⟩) ((e_X9_init_102 F (k71) x0 x1 M).symm.trans h)
set_option maxRecDepth 20000 in
theorem e_X9_init_71 (F : Nat) (t102 : Nat → Int32 → cM → Option (cM)) (t136 : Nat → Int32 → cM → Option (cM)) (x0 : Nat) (x1 : Int32) (M : cM) : b_X9_init_71 F t102 t136 x0 x1 M = run T_X9_init PI_RX9 true 5 (naL na_X9_init) (caL (ca_X9_init F)) (lkN []) (lkN []) krV kxN (spL [102, 136]) (KL [(102, kd_X9_init_102 t102), (136, kd_X9_init_136 t136)]) 100 71 [some (.ref x0), some (.int x1)] [] M := rfl
theorem ok_X9_init_71 {q : cL} {D : Nat} (hD : 3 ≤ D) {M0 M1 : cM} (hl : M0.length ≤ M1.length ∧ msz M0 ≤ msz M1) {F : Nat} (n : Nat) : ∀ x0 x1 M, f_X9_init_71 F n x0 x1 M = some M1 → WI q D 2 M0 M1 cX9_init RX9 71 [some (.ref x0), some (.int x1)] [] M := by
  induction n with
  | zero => intro x0 x1 M h; cases h
  | succ n ih =>
    intro x0 x1 M h
    exact segW_ok hl PI_RX9_ok nw_RX9_ok ar_ok T_X9_init_ok (ca_X9_init_ok hD F) (List.forall_mem_cons.mpr ⟨kf_X9_init_102 (ok_X9_init_102 hD hl (f_X9_init_71 F n) ih), List.forall_mem_cons.mpr ⟨kf_X9_init_136 (ok_X9_init_136 hD hl F), fun _ h => absurd h List.not_mem_nil⟩⟩) ((e_X9_init_71 F (f_X9_init_102 F (f_X9_init_71 F n)) (f_X9_init_136 F F) x0 x1 M).symm.trans h)
set_option maxRecDepth 20000 in
theorem e_X9_init_35 (F : Nat) (t71 : Nat → Int32 → cM → Option (cM)) (x0 : Nat) (M : cM) : b_X9_init_35 F t71 x0 M = run T_X9_init PI_RX9 true 5 (naL na_X9_init) (caL (ca_X9_init F)) (lkN []) (lkN []) krV kxN (spL [71]) (KL [(71, kd_X9_init_71 t71)]) 100 35 [some (.ref x0), none] [] M := rfl
theorem ok_X9_init_35 {q : cL} {D : Nat} (hD : 3 ≤ D) {M0 M1 : cM} (hl : M0.length ≤ M1.length ∧ msz M0 ≤ msz M1) {F : Nat} : ∀ x0 M, f_X9_init_35 F x0 M = some M1 → WI q D 2 M0 M1 cX9_init RX9 35 [some (.ref x0), none] [] M := by
  intro x0 M h
  exact segW_ok hl PI_RX9_ok nw_RX9_ok ar_ok T_X9_init_ok (ca_X9_init_ok hD F) (List.forall_mem_cons.mpr ⟨kf_X9_init_71 (ok_X9_init_71 hD hl F), fun _ h => absurd h List.not_mem_nil⟩) ((e_X9_init_35 F (f_X9_init_71 F F) x0 M).symm.trans h)
set_option maxRecDepth 20000 in
theorem e_X9_init_0 (F : Nat) (t35 : Nat → cM → Option (cM)) (x0 : Nat) (M : cM) : b_X9_init_0 F t35 x0 M = run T_X9_init PI_RX9 true 5 (naL na_X9_init) (caL (ca_X9_init F)) (lkN []) (lkN []) krV kxN (spL [35]) (KL [(35, kd_X9_init_35 t35)]) 100 0 [some (.ref x0), none] [] M := rfl
theorem ok_X9_init_0 {q : cL} {D : Nat} (hD : 3 ≤ D) {M0 M1 : cM} (hl : M0.length ≤ M1.length ∧ msz M0 ≤ msz M1) {F : Nat} : ∀ x0 M, f_X9_init_0 F x0 M = some M1 → WI q D 2 M0 M1 cX9_init RX9 0 [some (.ref x0), none] [] M := by
  intro x0 M h
  exact segW_ok hl PI_RX9_ok nw_RX9_ok ar_ok T_X9_init_ok (ca_X9_init_ok hD F) (List.forall_mem_cons.mpr ⟨kf_X9_init_35 (ok_X9_init_35 hD hl), fun _ h => absurd h List.not_mem_nil⟩) ((e_X9_init_0 F (f_X9_init_35 F) x0 M).symm.trans h)
theorem c_X9_init {q : cL} {D : Nat} (hD : 3 ≤ D) (F : Nat) (a0 : Nat) (M M1 : cM) (hl : M.length ≤ M1.length ∧ msz M ≤ msz M1) (h : f_X9_init F a0 M = some M1) : CI q yX9_init (.code yX9_init cX9_init 2 none) D [.ref a0] M M1 :=
  CI_ofW (own := RX9) (by decide +kernel) rfl rfl (Nat.le_of_ble_eq_true rfl) hl (ok_X9_init_0 hD hl a0 M h)
-- PatchbayScript.<init>
def T_X11_init : List cRow := [(0, .aload_n 0, 1, 0), (1, .invokespecial 1, 4, 0), (4, .aload_n 0, 5, 0), (5, .new 7, 8, 0), (8, .dup, 9, 0), (9, .invokespecial 9, 12, 0), (12, .putfield 10, 15, 0), (15, .aload_n 0, 16, 0), (16, .new 7, 19, 0), (19, .dup, 20, 0), (20, .invokespecial 9, 23, 0), (23, .putfield 16, 26, 0), (26, .aload_n 0, 27, 0), (27, .iconst 3, 28, 0), (28, .anewarray 19, 31, 0), (31, .putfield 21, 34, 0), (34, .iconst 0, 35, 0), (35, .istore_n 1, 36, 0), (36, .iload_n 1, 37, 0), (37, .iconst 3, 38, 0), (38, .if_icmp .ge 22, 41, 60), (41, .aload_n 0, 42, 0), (42, .getfield 21, 45, 0), (45, .iload_n 1, 46, 0), (46, .new 19, 49, 0), (49, .dup, 50, 0), (50, .invokespecial 25, 53, 0), (53, .aastore, 54, 0), (54, .iinc 1 1, 57, 0), (57, .goto (-21), 60, 36), (60, .aload_n 0, 61, 0), (61, .bipush 8, 63, 0), (63, .anewarray 26, 66, 0), (66, .putfield 28, 69, 0), (69, .iconst 0, 70, 0), (70, .istore_n 1, 71, 0), (71, .iload_n 1, 72, 0), (72, .bipush 8, 74, 0), (74, .if_icmp .ge 22, 77, 96), (77, .aload_n 0, 78, 0), (78, .getfield 28, 81, 0), (81, .iload_n 1, 82, 0), (82, .new 26, 85, 0), (85, .dup, 86, 0), (86, .invokespecial 32, 89, 0), (89, .aastore, 90, 0), (90, .iinc 1 1, 93, 0), (93, .goto (-22), 96, 71), (96, .aload_n 0, 97, 0), (97, .bipush 30, 99, 0), (99, .anewarray 33, 102, 0), (102, .putfield 35, 105, 0), (105, .iconst 0, 106, 0), (106, .istore_n 1, 107, 0), (107, .iload_n 1, 108, 0), (108, .bipush 30, 110, 0), (110, .if_icmp .ge 22, 113, 132), (113, .aload_n 0, 114, 0), (114, .getfield 35, 117, 0), (117, .iload_n 1, 118, 0), (118, .new 33, 121, 0), (121, .dup, 122, 0), (122, .invokespecial 39, 125, 0), (125, .aastore, 126, 0), (126, .iinc 1 1, 129, 0), (129, .goto (-22), 132, 107), (132, .aload_n 0, 133, 0), (133, .bipush 30, 135, 0), (135, .newarray .boolean, 137, 0), (137, .putfield 40, 140, 0), (140, .aload_n 0, 141, 0), (141, .new 44, 144, 0), (144, .dup, 145, 0), (145, .invokespecial 46, 148, 0), (148, .putfield 47, 151, 0), (151, .return_, 152, 0)]
theorem T_X11_init_ok : T_X11_init.all (rowB cX11_init) = true := by decide +kernel
def PI_RX11 : cP := poL [] [] [(10, (9, 0, 22)), (16, (9, 1, 22)), (21, (9, 2, 22)), (28, (9, 3, 22)), (35, (9, 4, 22)), (40, (9, 5, 22)), (47, (9, 6, 22))] [(7, (8, [.null, .null, .int 0])), (19, (7, [.null, .null, .null, .int 0, .null, .null, .int 0, .null, .null, .int 0, .null, .int 0, .int 0])), (26, (4, [.null, .null, .null, .int 0])), (33, (3, [.null, .null, .int 0, .int 0])), (44, (2, [.null, .null, .null, .null, .null]))] [(19, 8), (26, 6), (33, 5)]
theorem PI_RX11_ok : pOK RX11 PI_RX11 := poL_ok (fun _ h => absurd h List.not_mem_nil) (fun _ h => absurd h List.not_mem_nil) (by decide +kernel) (List.forall_mem_cons.mpr ⟨tb_ok 367 (by decide +kernel), List.forall_mem_cons.mpr ⟨tb_ok 368 (by decide +kernel), List.forall_mem_cons.mpr ⟨tb_ok 369 (by decide +kernel), List.forall_mem_cons.mpr ⟨tb_ok 370 (by decide +kernel), List.forall_mem_cons.mpr ⟨tb_ok 371 (by decide +kernel), List.forall_mem_cons.mpr ⟨tb_ok 372 (by decide +kernel), List.forall_mem_cons.mpr ⟨tb_ok 373 (by decide +kernel), fun _ h => absurd h List.not_mem_nil⟩⟩⟩⟩⟩⟩⟩)
theorem nw_RX11_ok : nwOK RX11 PI_RX11 := by
  refine ⟨fun k q h => ?_, fun k t h => ?_⟩
  · exact nwL_ok (l := [(7, (8, [.null, .null, .int 0])), (19, (7, [.null, .null, .null, .int 0, .null, .null, .int 0, .null, .null, .int 0, .null, .int 0, .int 0])), (26, (4, [.null, .null, .null, .int 0])), (33, (3, [.null, .null, .int 0, .int 0])), (44, (2, [.null, .null, .null, .null, .null]))]) (List.forall_mem_cons.mpr ⟨⟨RX10, TX10, 3, tyX10, rfl, lw_good_of (tb_ok 30 (by decide +kernel)) rfl, lw_good_of (tb_ok 31 (by decide +kernel)) rfl, lw_good_of (tb_ok 2 (by decide +kernel)) rfl, tyX10_ok, rfl, fun _ => rfl, by decide +kernel⟩, List.forall_mem_cons.mpr ⟨⟨RX9, TX9, 13, tyX9, rfl, lw_good_of (tb_ok 53 (by decide +kernel)) rfl, lw_good_of (tb_ok 55 (by decide +kernel)) rfl, lw_good_of (tb_ok 3 (by decide +kernel)) rfl, tyX9_ok, rfl, fun _ => rfl, by decide +kernel⟩, List.forall_mem_cons.mpr ⟨⟨RX5, TX5, 4, tyX5, rfl, lw_good_of (tb_ok 160 (by decide +kernel)) rfl, lw_good_of (tb_ok 162 (by decide +kernel)) rfl, lw_good_of (tb_ok 6 (by decide +kernel)) rfl, tyX5_ok, rfl, fun _ => rfl, by decide +kernel⟩, List.forall_mem_cons.mpr ⟨⟨RX4, TX4, 4, tyX4, rfl, lw_good_of (tb_ok 186 (by decide +kernel)) rfl, lw_good_of (tb_ok 63 (by decide +kernel)) rfl, lw_good_of (tb_ok 4 (by decide +kernel)) rfl, tyX4_ok, rfl, fun _ => rfl, by decide +kernel⟩, List.forall_mem_cons.mpr ⟨⟨RX3, TX3, 5, tyX3, rfl, lw_good_of (tb_ok 189 (by decide +kernel)) rfl, lw_good_of (tb_ok 190 (by decide +kernel)) rfl, lw_good_of (tb_ok 7 (by decide +kernel)) rfl, tyX3_ok, rfl, fun _ => rfl, by decide +kernel⟩, fun _ h => absurd h List.not_mem_nil⟩⟩⟩⟩⟩) h
  · exact anL_ok (l := [(19, 8), (26, 6), (33, 5)]) (List.forall_mem_cons.mpr ⟨⟨by decide, by decide, _, rfl, lw_good_of (tb_ok 53 (by decide +kernel)) rfl⟩, List.forall_mem_cons.mpr ⟨⟨by decide, by decide, _, rfl, lw_good_of (tb_ok 160 (by decide +kernel)) rfl⟩, List.forall_mem_cons.mpr ⟨⟨by decide, by decide, _, rfl, lw_good_of (tb_ok 186 (by decide +kernel)) rfl⟩, fun _ h => absurd h List.not_mem_nil⟩⟩⟩) h
def na_X11_init : List (Nat × Nat) := [(5, 1), (29, 1), (77, 1), (98, 1), (119, 1), (140, 1)]
def ca_X11_init (F : Nat) : List (Nat × cFn cM) := [(5, n_obj), (29, n_ini (f_X10_init F)), (77, n_ini (f_X9_init F)), (98, n_ini (f_X5_init F)), (119, n_ini (f_X4_init F)), (140, n_ini (f_X3_init F))]
theorem ca_X11_init_ok {q : cL} {D : Nat} (hD : 6 ≤ D) (F : Nat) : ∀ x ∈ ca_X11_init F, 1 ≤ D ∧ ceI q RX11 (D - 1) x.1 x.2 := List.forall_mem_cons.mpr ⟨⟨by omega, n_obj_ok (k := 1) (List.forall_mem_cons.mpr ⟨lw_good_of (tb_ok 27 (by decide +kernel)) rfl, List.forall_mem_cons.mpr ⟨lw_good_of (tb_ok 28 (by decide +kernel)) rfl, List.forall_mem_cons.mpr ⟨lw_good_of (tb_ok 29 (by decide +kernel)) rfl, fun _ h => absurd h List.not_mem_nil⟩⟩⟩)⟩, List.forall_mem_cons.mpr ⟨⟨by omega, n_ini_ok (k := 9) (host := "PatchbayScript") (fun a M M' hl h => c_X10_init (by omega) F a M M' hl h) (Or.inl (List.mem_filter.mpr ⟨tb_ok 32 (by decide +kernel), rfl⟩)) (List.forall_mem_cons.mpr ⟨lw_good_of (tb_ok 33 (by decide +kernel)) rfl, List.forall_mem_cons.mpr ⟨lw_good_of (tb_ok 2 (by decide +kernel)) rfl, List.forall_mem_cons.mpr ⟨lw_good_of (tb_ok 34 (by decide +kernel)) rfl, fun _ h => absurd h List.not_mem_nil⟩⟩⟩) rfl ⟨by decide +kernel, by decide +kernel, by decide +kernel⟩ (by decide)⟩, List.forall_mem_cons.mpr ⟨⟨by omega, n_ini_ok (k := 25) (host := "") (fun a M M' hl h => c_X9_init (by omega) F a M M' hl h) (Or.inr (lw_good_of (tb_ok 56 (by decide +kernel)) rfl)) (List.forall_mem_cons.mpr ⟨lw_good_of (tb_ok 57 (by decide +kernel)) rfl, List.forall_mem_cons.mpr ⟨lw_good_of (tb_ok 3 (by decide +kernel)) rfl, List.forall_mem_cons.mpr ⟨lw_good_of (tb_ok 58 (by decide +kernel)) rfl, fun _ h => absurd h List.not_mem_nil⟩⟩⟩) rfl ⟨by decide +kernel, by decide +kernel, by decide +kernel⟩ (by decide)⟩, List.forall_mem_cons.mpr ⟨⟨by omega, n_ini_ok (k := 32) (host := "PatchbayScript") (fun a M M' hl h => c_X5_init (by omega) F a M M' hl h) (Or.inl (List.mem_filter.mpr ⟨tb_ok 163 (by decide +kernel), rfl⟩)) (List.forall_mem_cons.mpr ⟨lw_good_of (tb_ok 164 (by decide +kernel)) rfl, List.forall_mem_cons.mpr ⟨lw_good_of (tb_ok 6 (by decide +kernel)) rfl, List.forall_mem_cons.mpr ⟨lw_good_of (tb_ok 165 (by decide +kernel)) rfl, fun _ h => absurd h List.not_mem_nil⟩⟩⟩) rfl ⟨by decide +kernel, by decide +kernel, by decide +kernel⟩ (by decide)⟩, List.forall_mem_cons.mpr ⟨⟨by omega, n_ini_ok (k := 39) (host := "PatchbayScript") (fun a M M' hl h => c_X4_init (by omega) F a M M' hl h) (Or.inl (List.mem_filter.mpr ⟨tb_ok 188 (by decide +kernel), rfl⟩)) (List.forall_mem_cons.mpr ⟨lw_good_of (tb_ok 65 (by decide +kernel)) rfl, List.forall_mem_cons.mpr ⟨lw_good_of (tb_ok 4 (by decide +kernel)) rfl, List.forall_mem_cons.mpr ⟨lw_good_of (tb_ok 66 (by decide +kernel)) rfl, fun _ h => absurd h List.not_mem_nil⟩⟩⟩) rfl ⟨by decide +kernel, by decide +kernel, by decide +kernel⟩ (by decide)⟩, List.forall_mem_cons.mpr ⟨⟨by omega, n_ini_ok (k := 46) (host := "") (fun a M M' hl h => c_X3_init (by omega) F a M M' hl h) (Or.inr (lw_good_of (tb_ok 191 (by decide +kernel)) rfl)) (List.forall_mem_cons.mpr ⟨lw_good_of (tb_ok 192 (by decide +kernel)) rfl, List.forall_mem_cons.mpr ⟨lw_good_of (tb_ok 7 (by decide +kernel)) rfl, List.forall_mem_cons.mpr ⟨lw_good_of (tb_ok 193 (by decide +kernel)) rfl, fun _ h => absurd h List.not_mem_nil⟩⟩⟩) rfl ⟨by decide +kernel, by decide +kernel, by decide +kernel⟩ (by decide)⟩, fun _ h => absurd h List.not_mem_nil⟩⟩⟩⟩⟩⟩
def kd_X11_init_36 (g : Nat → Int32 → cM → Option (cM)) : cKf cM := fun vs st M => (lR vs 0).bind fun x0 => (lI vs 1).bind fun x1 => match st with
  | [] => g x0 x1 M
  | _ => none
theorem kf_X11_init_36 {q : cL} {D : Nat} {M0 M1 : cM} {g : Nat → Int32 → cM → Option (cM)} (hg : ∀ x0 x1 M, g x0 x1 M = some M1 → WI q D 2 M0 M1 cX11_init RX11 36 [some (.ref x0), some (.int x1)] [] M) : ∀ vs st M, kd_X11_init_36 g vs st M = some M1 → WI q D 2 M0 M1 cX11_init RX11 36 vs st M := by
  intro vs st M h
  unfold kd_X11_init_36 at h
  obtain ⟨x0, h0, h⟩ := Option.bind_eq_some_iff.mp h
  obtain ⟨x1, h1, h⟩ := Option.bind_eq_some_iff.mp h
  split at h
  · exact WI_weak (hg _ _ _ h) rfl ⟨lR_of h0, lI_of h1, trivial⟩
  · cases h
def kd_X11_init_71 (g : Nat → Int32 → cM → Option (cM)) : cKf cM := fun vs st M => (lR vs 0).bind fun x0 => (lI vs 1).bind fun x1 => match st with
  | [] => g x0 x1 M
  | _ => none
theorem kf_X11_init_71 {q : cL} {D : Nat} {M0 M1 : cM} {g : Nat → Int32 → cM → Option (cM)} (hg : ∀ x0 x1 M, g x0 x1 M = some M1 → WI q D 2 M0 M1 cX11_init RX11 71 [some (.ref x0), some (.int x1)] [] M) : ∀ vs st M, kd_X11_init_71 g vs st M = some M1 → WI q D 2 M0 M1 cX11_init RX11 71 vs st M := by
  intro vs st M h
  unfold kd_X11_init_71 at h
  obtain ⟨x0, h0, h⟩ := Option.bind_eq_some_iff.mp h
  obtain ⟨x1, h1, h⟩ := Option.bind_eq_some_iff.mp h
  split at h
  · exact WI_weak (hg _ _ _ h) rfl ⟨lR_of h0, lI_of h1, trivial⟩
  · cases h
def kd_X11_init_107 (g : Nat → Int32 → cM → Option (cM)) : cKf cM := fun vs st M => (lR vs 0).bind fun x0 => (lI vs 1).bind fun x1 => match st with
  | [] => g x0 x1 M
  | _ => none
theorem kf_X11_init_107 {q : cL} {D : Nat} {M0 M1 : cM} {g : Nat → Int32 → cM → Option (cM)} (hg : ∀ x0 x1 M, g x0 x1 M = some M1 → WI q D 2 M0 M1 cX11_init RX11 107 [some (.ref x0), some (.int x1)] [] M) : ∀ vs st M, kd_X11_init_107 g vs st M = some M1 → WI q D 2 M0 M1 cX11_init RX11 107 vs st M := by
  intro vs st M h
  unfold kd_X11_init_107 at h
  obtain ⟨x0, h0, h⟩ := Option.bind_eq_some_iff.mp h
  obtain ⟨x1, h1, h⟩ := Option.bind_eq_some_iff.mp h
  split at h
  · exact WI_weak (hg _ _ _ h) rfl ⟨lR_of h0, lI_of h1, trivial⟩
  · cases h
set_option maxRecDepth 20000 in
theorem e_X11_init_107 (F : Nat) (t107 : Nat → Int32 → cM → Option (cM)) (x0 : Nat) (x1 : Int32) (M : cM) : b_X11_init_107 F t107 x0 x1 M = run T_X11_init PI_RX11 true 5 (naL na_X11_init) (caL (ca_X11_init F)) (lkN []) (lkN []) krV kxN (spL [107]) (KL [(107, kd_X11_init_107 t107)]) 79 107 [some (.ref x0), some (.int x1)] [] M := rfl
theorem ok_X11_init_107 {q : cL} {D : Nat} (hD : 6 ≤ D) {M0 M1 : cM} (hl : M0.length ≤ M1.length ∧ msz M0 ≤ msz M1) {F : Nat} (n : Nat) : ∀ x0 x1 M, f_X11_init_107 F n x0 x1 M = some M1 → WI q D 2 M0 M1 cX11_init RX11 107 [some (.ref x0), some (.int x1)] [] M := by
  induction n with
  | zero => intro x0 x1 M h; cases h
  | succ n ih =>
    intro x0 x1 M h
    exact segW_ok hl PI_RX11_ok nw_RX11_ok ar_ok T_X11_init_ok (ca_X11_init_ok hD F) (List.forall_mem_cons.mpr ⟨kf_X11_init_107 (ih), fun _ h => absurd h List.not_mem_nil⟩) ((e_X11_init_107 F (f_X11_init_107 F n) x0 x1 M).symm.trans h)
set_option maxRecDepth 20000 in
theorem e_X11_init_71 (F : Nat) (t71 : Nat → Int32 → cM → Option (cM)) (t107 : Nat → Int32 → cM → Option (cM)) (x0 : Nat) (x1 : Int32) (M : cM) : b_X11_init_71 F t71 t107 x0 x1 M = run T_X11_init PI_RX11 true 5 (naL na_X11_init) (caL (ca_X11_init F)) (lkN []) (lkN []) krV kxN (spL [71, 107]) (KL [(71, kd_X11_init_71 t71), (107, kd_X11_init_107 t107)]) 79 71 [some (.ref x0), some (.int x1)] [] M := rfl
theorem ok_X11_init_71 {q : cL} {D : Nat} (hD : 6 ≤ D) {M0 M1 : cM} (hl : M0.length ≤ M1.length ∧ msz M0 ≤ msz M1) {F : Nat} (n : Nat) : ∀ x0 x1 M, f_X11_init_71 F n x0 x1 M = some M1 → WI q D 2 M0 M1 cX11_init RX11 71 [some (.ref x0), some (.int x1)] [] M := by
  induction n with
  | zero => intro x0 x1 M h; cases h
  | succ n ih =>
    intro x0 x1 M h
    exact segW_ok hl PI_RX11_ok nw_RX11_ok ar_ok T_X11_init_ok (ca_X11_init_ok hD F) (List.forall_mem_cons.mpr ⟨kf_X11_init_71 (ih), List.forall_mem_cons.mpr ⟨kf_X11_init_107 (ok_X11_init_107 hD hl F), fun _ h => absurd h List.not_mem_nil⟩⟩) ((e_X11_init_71 F (f_X11_init_71 F n) (f_X11_init_107 F F) x0 x1 M).symm.trans h)
set_option maxRecDepth 20000 in
theorem e_X11_init_36 (F : Nat) (t36 : Nat → Int32 → cM → Option (cM)) (t71 : Nat → Int32 → cM → Option (cM)) (x0 : Nat) (x1 : Int32) (M : cM) : b_X11_init_36 F t36 t71 x0 x1 M = run T_X11_init PI_RX11 true 5 (naL na_X11_init) (caL (ca_X11_init F)) (lkN []) (lkN []) krV kxN (spL [36, 71]) (KL [(36, kd_X11_init_36 t36), (71, kd_X11_init_71 t71)]) 79 36 [some (.ref x0), some (.int x1)] [] M := rfl
theorem ok_X11_init_36 {q : cL} {D : Nat} (hD : 6 ≤ D) {M0 M1 : cM} (hl : M0.length ≤ M1.length ∧ msz M0 ≤ msz M1) {F : Nat} (n : Nat) : ∀ x0 x1 M, f_X11_init_36 F n x0 x1 M = some M1 → WI q D 2 M0 M1 cX11_init RX11 36 [some (.ref x0), some (.int x1)] [] M := by
  induction n with
  | zero => intro x0 x1 M h; cases h
  | succ n ih =>
    intro x0 x1 M h
    exact segW_ok hl PI_RX11_ok nw_RX11_ok ar_ok T_X11_init_ok (ca_X11_init_ok hD F) (List.forall_mem_cons.mpr ⟨kf_X11_init_36 (ih), List.forall_mem_cons.mpr ⟨kf_X11_init_71 (ok_X11_init_71 hD hl F), fun _ h => absurd h List.not_mem_nil⟩⟩) ((e_X11_init_36 F (f_X11_init_36 F n) (f_X11_init_71 F F) x0 x1 M).symm.trans h)
set_option maxRecDepth 20000 in
theorem e_X11_init_0 (F : Nat) (t36 : Nat → Int32 → cM → Option (cM)) (x0 : Nat) (M : cM) : b_X11_init_0 F t36 x0 M = run T_X11_init PI_RX11 true 5 (naL na_X11_init) (caL (ca_X11_init F)) (lkN []) (lkN []) krV kxN (spL [36]) (KL [(36, kd_X11_init_36 t36)]) 79 0 [some (.ref x0), none] [] M := rfl
theorem ok_X11_init_0 {q : cL} {D : Nat} (hD : 6 ≤ D) {M0 M1 : cM} (hl : M0.length ≤ M1.length ∧ msz M0 ≤ msz M1) {F : Nat} : ∀ x0 M, f_X11_init_0 F x0 M = some M1 → WI q D 2 M0 M1 cX11_init RX11 0 [some (.ref x0), none] [] M := by
  intro x0 M h
  exact segW_ok hl PI_RX11_ok nw_RX11_ok ar_ok T_X11_init_ok (ca_X11_init_ok hD F) (List.forall_mem_cons.mpr ⟨kf_X11_init_36 (ok_X11_init_36 hD hl F), fun _ h => absurd h List.not_mem_nil⟩) ((e_X11_init_0 F (f_X11_init_36 F F) x0 M).symm.trans h)
theorem c_X11_init {q : cL} {D : Nat} (hD : 6 ≤ D) (F : Nat) (a0 : Nat) (M M1 : cM) (hl : M.length ≤ M1.length ∧ msz M ≤ msz M1) (h : f_X11_init F a0 M = some M1) : CI q yX11_init (.code yX11_init cX11_init 2 none) D [.ref a0] M M1 :=
  CI_ofW (own := RX11) (by decide +kernel) rfl rfl (Nat.le_of_ble_eq_true rfl) hl (ok_X11_init_0 hD hl a0 M h)
-- PatchbayScriptModel.<init>
def T_X12_init : List cRow := [(0, .aload_n 0, 1, 0), (1, .invokespecial 1, 4, 0), (4, .aload_n 0, 5, 0), (5, .bipush 20, 7, 0), (7, .newarray .int, 9, 0), (9, .putfield 7, 12, 0), (12, .aload_n 0, 13, 0), (13, .sipush 160, 16, 0), (16, .newarray .int, 18, 0), (18, .putfield 13, 21, 0), (21, .aload_n 0, 22, 0), (22, .bipush 8, 24, 0), (24, .newarray .int, 26, 0), (26, .putfield 16, 29, 0), (29, .aload_n 0, 30, 0), (30, .bipush 8, 32, 0), (32, .newarray .int, 34, 0), (34, .putfield 19, 37, 0), (37, .aload_n 0, 38, 0), (38, .sipush 320, 41, 0), (41, .newarray .int, 43, 0), (43, .putfield 22, 46, 0), (46, .aload_n 0, 47, 0), (47, .iconst 3, 48, 0), (48, .newarray .int, 50, 0), (50, .putfield 25, 53, 0), (53, .aload_n 0, 54, 0), (54, .bipush 12, 56, 0), (56, .newarray .int, 58, 0), (58, .putfield 28, 61, 0), (61, .aload_n 0, 62, 0), (62, .sipush 240, 65, 0), (65, .newarray .int, 67, 0), (67, .putfield 31, 70, 0), (70, .aload_n 0, 71, 0), (71, .bipush 12, 73, 0), (73, .newarray .int, 75, 0), (75, .putfield 34, 78, 0), (78, .aload_n 0, 79, 0), (79, .sipush 240, 82, 0), (82, .newarray .int, 84, 0), (84, .putfield 37, 87, 0), (87, .aload_n 0, 88, 0), (88, .bipush 12, 90, 0), (90, .newarray .int, 92, 0), (92, .putfield 40, 95, 0), (95, .aload_n 0, 96, 0), (96, .iconst 3, 97, 0), (97, .newarray .int, 99, 0), (99, .putfield 43, 102, 0), (102, .aload_n 0, 103, 0), (103, .sipush 240, 106, 0), (106, .newarray .int, 108, 0), (108, .putfield 46, 111, 0), (111, .aload_n 0, 112, 0), (112, .bipush 12, 114, 0), (114, .newarray .int, 116, 0), (116, .putfield 49, 119, 0), (119, .aload_n 0, 120, 0), (120, .sipush 240, 123, 0), (123, .newarray .int, 125, 0), (125, .putfield 52, 128, 0), (128, .aload_n 0, 129, 0), (129, .bipush 12, 131, 0), (131, .newarray .int, 133, 0), (133, .putfield 55, 136, 0), (136, .aload_n 0, 137, 0), (137, .bipush 12, 139, 0), (139, .newarray .int, 141, 0), (141, .putfield 58, 144, 0), (144, .aload_n 0, 145, 0), (145, .bipush 12, 147, 0), (147, .newarray .int, 149, 0), (149, .putfield 61, 152, 0), (152, .aload_n 0, 153, 0), (153, .bipush 12, 155, 0), (155, .newarray .int, 157, 0), (157, .putfield 64, 160, 0), (160, .aload_n 0, 161, 0), (161, .bipush 12, 163, 0), (163, .newarray .int, 165, 0), (165, .putfield 67, 168, 0), (168, .aload_n 0, 169, 0), (169, .bipush 48, 171, 0), (171, .newarray .int, 173, 0), (173, .putfield 70, 176, 0), (176, .aload_n 0, 177, 0), (177, .iconst 3, 178, 0), (178, .newarray .boolean, 180, 0), (180, .putfield 73, 183, 0), (183, .aload_n 0, 184, 0), (184, .iconst 3, 185, 0), (185, .newarray .int, 187, 0), (187, .putfield 77, 190, 0), (190, .aload_n 0, 191, 0), (191, .iconst 3, 192, 0), (192, .newarray .boolean, 194, 0), (194, .putfield 80, 197, 0), (197, .aload_n 0, 198, 0), (198, .bipush 30, 200, 0), (200, .newarray .boolean, 202, 0), (202, .putfield 83, 205, 0), (205, .aload_n 0, 206, 0), (206, .bipush 30, 208, 0), (208, .newarray .int, 210, 0), (210, .putfield 86, 213, 0), (213, .aload_n 0, 214, 0), (214, .bipush 87, 216, 0), (216, .newarray .int, 218, 0), (218, .putfield 89, 221, 0), (221, .aload_n 0, 222, 0), (222, .bipush 87, 224, 0), (224, .newarray .int, 226, 0), (226, .putfield 92, 229, 0), (229, .aload_n 0, 230, 0), (230, .sipush 348, 233, 0), (233, .newarray .int, 235, 0), (235, .putfield 95, 238, 0), (238, .aload_n 0, 239, 0), (239, .sipush 348, 242, 0), (242, .newarray .int, 244, 0), (244, .putfield 98, 247, 0), (247, .aload_n 0, 248, 0), (248, .sipush 348, 251, 0), (251, .newarray .int, 253, 0), (253, .putfield 101, 256, 0), (256, .aload_n 0, 257, 0), (257, .sipush 348, 260, 0), (260, .newarray .int, 262, 0), (262, .putfield 104, 265, 0), (265, .aload_n 0, 266, 0), (266, .sipush 1392, 269, 0), (269, .newarray .int, 271, 0), (271, .putfield 107, 274, 0), (274, .aload_n 0, 275, 0), (275, .bipush 16, 277, 0), (277, .newarray .int, 279, 0), (279, .putfield 110, 282, 0), (282, .aload_n 0, 283, 0), (283, .bipush 20, 285, 0), (285, .newarray .int, 287, 0), (287, .putfield 113, 290, 0), (290, .aload_n 0, 291, 0), (291, .iconst 4, 292, 0), (292, .newarray .int, 294, 0), (294, .putfield 116, 297, 0), (297, .aload_n 0, 298, 0), (298, .bipush 44, 300, 0), (300, .newarray .int, 302, 0), (302, .putfield 119, 305, 0), (305, .aload_n 0, 306, 0), (306, .bipush 44, 308, 0), (308, .newarray .int, 310, 0), (310, .putfield 122, 313, 0), (313, .aload_n 0, 314, 0), (314, .sipush 140, 317, 0), (317, .newarray .int, 319, 0), (319, .putfield 125, 322, 0), (322, .aload_n 0, 323, 0), (323, .sipush 1200, 326, 0), (326, .newarray .int, 328, 0), (328, .putfield 128, 331, 0), (331, .aload_n 0, 332, 0), (332, .sipush 300, 335, 0), (335, .newarray .int, 337, 0), (337, .putfield 131, 340, 0), (340, .aload_n 0, 341, 0), (341, .sipush 16000, 344, 0), (344, .newarray .int, 346, 0), (346, .putfield 134, 349, 0), (349, .aload_n 0, 350, 0), (350, .sipush 16000, 353, 0), (353, .newarray .int, 355, 0), (355, .putfield 137, 358, 0), (358, .aload_n 0, 359, 0), (359, .sipush 4000, 362, 0), (362, .newarray .int, 364, 0), (364, .putfield 140, 367, 0), (367, .aload_n 0, 368, 0), (368, .sipush 4000, 371, 0), (371, .newarray .int, 373, 0), (373, .putfield 143, 376, 0), (376, .aload_n 0, 377, 0), (377, .iconst 4, 378, 0), (378, .newarray .int, 380, 0), (380, .putfield 146, 383, 0), (383, .aload_n 0, 384, 0), (384, .iconst 4, 385, 0), (385, .newarray .int, 387, 0), (387, .putfield 149, 390, 0), (390, .aload_n 0, 391, 0), (391, .iconst 4, 392, 0), (392, .newarray .int, 394, 0), (394, .putfield 152, 397, 0), (397, .aload_n 0, 398, 0), (398, .ldc 155, 400, 0), (400, .newarray .int, 402, 0), (402, .putfield 156, 405, 0), (405, .aload_n 0, 406, 0), (406, .ldc 155, 408, 0), (408, .newarray .int, 410, 0), (410, .putfield 159, 413, 0), (413, .aload_n 0, 414, 0), (414, .ldc 155, 416, 0), (416, .newarray .int, 418, 0), (418, .putfield 162, 421, 0), (421, .aload_n 0, 422, 0), (422, .sipush 4000, 425, 0), (425, .newarray .long, 427, 0), (427, .putfield 165, 430, 0), (430, .aload_n 0, 431, 0), (431, .iconst 4, 432, 0), (432, .newarray .int, 434, 0), (434, .putfield 169, 437, 0), (437, .aload_n 0, 438, 0), (438, .bipush 20, 440, 0), (440, .newarray .int, 442, 0), (442, .putfield 172, 445, 0), (445, .aload_n 0, 446, 0), (446, .iconst 4, 447, 0), (447, .newarray .int, 449, 0), (449, .putfield 175, 452, 0), (452, .aload_n 0, 453, 0), (453, .iconst 5, 454, 0), (454, .newarray .int, 456, 0), (456, .putfield 178, 459, 0), (459, .aload_n 0, 460, 0), (460, .iconst 5, 461, 0), (461, .newarray .int, 463, 0), (463, .putfield 181, 466, 0), (466, .aload_n 0, 467, 0), (467, .bipush 25, 469, 0), (469, .newarray .int, 471, 0), (471, .putfield 184, 474, 0), (474, .aload_n 0, 475, 0), (475, .bipush 100, 477, 0), (477, .newarray .int, 479, 0), (479, .putfield 187, 482, 0), (482, .aload_n 0, 483, 0), (483, .iconst 5, 484, 0), (484, .newarray .int, 486, 0), (486, .putfield 190, 489, 0), (489, .aload_n 0, 490, 0), (490, .bipush 20, 492, 0), (492, .newarray .int, 494, 0), (494, .putfield 193, 497, 0), (497, .iconst 0, 498, 0), (498, .istore_n 1, 499, 0), (499, .iload_n 1, 500, 0), (500, .bipush 12, 502, 0), (502, .if_icmp .ge 16, 505, 518), (505, .aload_n 0, 506, 0), (506, .getfield 58, 509, 0), (509, .iload_n 1, 510, 0), (510, .iconst (-1), 511, 0), (511, .iastore, 512, 0), (512, .iinc 1 1, 515, 0), (515, .goto (-16), 518, 499), (518, .iconst 0, 519, 0), (519, .istore_n 1, 520, 0), (520, .iload_n 1, 521, 0), (521, .iconst 3, 522, 0), (522, .if_icmp .ge 16, 525, 538), (525, .aload_n 0, 526, 0), (526, .getfield 77, 529, 0), (529, .iload_n 1, 530, 0), (530, .iconst (-1), 531, 0), (531, .iastore, 532, 0), (532, .iinc 1 1, 535, 0), (535, .goto (-15), 538, 520), (538, .return_, 539, 0)]
theorem T_X12_init_ok : T_X12_init.all (rowB cX12_init) = true := by decide +kernel
def PI_RX12 : cP := poL [(155, 194481)] [] [(7, (10, 2, 22)), (13, (10, 4, 22)), (16, (10, 5, 22)), (19, (10, 6, 22)), (22, (10, 7, 22)), (25, (10, 8, 22)), (28, (10, 9, 22)), (31, (10, 10, 22)), (34, (10, 11, 22)), (37, (10, 12, 22)), (40, (10, 13, 22)), (43, (10, 14, 22)), (46, (10, 15, 22)), (49, (10, 16, 22)), (52, (10, 17, 22)), (55, (10, 18, 22)), (58, (10, 19, 22)), (61, (10, 20, 22)), (64, (10, 21, 22)), (67, (10, 22, 22)), (70, (10, 23, 22)), (73, (10, 24, 22)), (77, (10, 25, 22)), (80, (10, 26, 22)), (83, (10, 28, 22)), (86, (10, 29, 22)), (89, (10, 31, 22)), (92, (10, 32, 22)), (95, (10, 33, 22)), (98, (10, 34, 22)), (101, (10, 35, 22)), (104, (10, 36, 22)), (107, (10, 37, 22)), (110, (10, 39, 22)), (113, (10, 41, 22)), (116, (10, 42, 22)), (119, (10, 43, 22)), (122, (10, 44, 22)), (125, (10, 46, 22)), (128, (10, 48, 22)), (131, (10, 49, 22)), (134, (10, 51, 22)), (137, (10, 52, 22)), (140, (10, 53, 22)), (143, (10, 55, 22)), (146, (10, 58, 22)), (149, (10, 59, 22)), (152, (10, 60, 22)), (156, (10, 62, 22)), (159, (10, 63, 22)), (162, (10, 64, 22)), (165, (10, 66, 22)), (169, (10, 67, 22)), (172, (10, 68, 22)), (175, (10, 69, 22)), (178, (10, 70, 22)), (181, (10, 71, 22)), (184, (10, 72, 22)), (187, (10, 73, 22)), (190, (10, 74, 22)), (193, (10, 75, 22))] [] []
theorem PI_RX12_ok : pOK RX12 PI_RX12 := poL_ok (List.forall_mem_cons.mpr ⟨lw_good_of (tb_ok 1097 (by decide +kernel)) rfl, fun _ h => absurd h List.not_mem_nil⟩) (fun _ h => absurd h List.not_mem_nil) (by decide +kernel) (List.forall_mem_cons.mpr ⟨tb_ok 1100 (by decide +kernel), List.forall_mem_cons.mpr ⟨tb_ok 1102 (by decide +kernel), List.forall_mem_cons.mpr ⟨tb_ok 1103 (by decide +kernel), List.forall_mem_cons.mpr ⟨tb_ok 1104 (by decide +kernel), List.forall_mem_cons.mpr ⟨tb_ok 1105 (by decide +kernel), List.forall_mem_cons.mpr ⟨tb_ok 1106 (by decide +kernel), List.forall_mem_cons.mpr ⟨tb_ok 1107 (by decide +kernel), List.forall_mem_cons.mpr ⟨tb_ok 1108 (by decide +kernel), List.forall_mem_cons.mpr ⟨tb_ok 1109 (by decide +kernel), List.forall_mem_cons.mpr ⟨tb_ok 1110 (by decide +kernel), List.forall_mem_cons.mpr ⟨tb_ok 1111 (by decide +kernel), List.forall_mem_cons.mpr ⟨tb_ok 1112 (by decide +kernel), List.forall_mem_cons.mpr ⟨tb_ok 1113 (by decide +kernel), List.forall_mem_cons.mpr ⟨tb_ok 1114 (by decide +kernel), List.forall_mem_cons.mpr ⟨tb_ok 1115 (by decide +kernel), List.forall_mem_cons.mpr ⟨tb_ok 1116 (by decide +kernel), List.forall_mem_cons.mpr ⟨tb_ok 1117 (by decide +kernel), List.forall_mem_cons.mpr ⟨tb_ok 1118 (by decide +kernel), List.forall_mem_cons.mpr ⟨tb_ok 1119 (by decide +kernel), List.forall_mem_cons.mpr ⟨tb_ok 1120 (by decide +kernel), List.forall_mem_cons.mpr ⟨tb_ok 1121 (by decide +kernel), List.forall_mem_cons.mpr ⟨tb_ok 1122 (by decide +kernel), List.forall_mem_cons.mpr ⟨tb_ok 1123 (by decide +kernel), List.forall_mem_cons.mpr ⟨tb_ok 1124 (by decide +kernel), List.forall_mem_cons.mpr ⟨tb_ok 1126 (by decide +kernel), List.forall_mem_cons.mpr ⟨tb_ok 1127 (by decide +kernel), List.forall_mem_cons.mpr ⟨tb_ok 1129 (by decide +kernel), List.forall_mem_cons.mpr ⟨tb_ok 1130 (by decide +kernel), List.forall_mem_cons.mpr ⟨tb_ok 1131 (by decide +kernel), List.forall_mem_cons.mpr ⟨tb_ok 1132 (by decide +kernel), List.forall_mem_cons.mpr ⟨tb_ok 1133 (by decide +kernel), List.forall_mem_cons.mpr ⟨tb_ok 1134 (by decide +kernel), List.forall_mem_cons.mpr ⟨tb_ok 1135 (by decide +kernel), List.forall_mem_cons.mpr ⟨tb_ok 1137 (by decide +kernel), List.forall_mem_cons.mpr ⟨tb_ok 1139 (by decide +kernel), List.forall_mem_cons.mpr ⟨tb_ok 1140 (by decide +kernel), List.forall_mem_cons.mpr ⟨tb_ok 1141 (by decide +kernel), List.forall_mem_cons.mpr ⟨tb_ok 1142 (by decide +kernel), List.forall_mem_cons.mpr ⟨tb_ok 1144 (by decide +kernel), List.forall_mem_cons.mpr ⟨tb_ok 1146 (by decide +kernel), List.forall_mem_cons.mpr ⟨tb_ok 1147 (by decide +kernel), List.forall_mem_cons.mpr ⟨tb_ok 1149 (by decide +kernel), List.forall_mem_cons.mpr ⟨tb_ok 1150 (by decide +kernel), List.forall_mem_cons.mpr ⟨tb_ok 1151 (by decide +kernel), List.forall_mem_cons.mpr ⟨tb_ok 1153 (by decide +kernel), List.forall_mem_cons.mpr ⟨tb_ok 1156 (by decide +kernel), List.forall_mem_cons.mpr ⟨tb_ok 1157 (by decide +kernel), List.forall_mem_cons.mpr ⟨tb_ok 1158 (by decide +kernel), List.forall_mem_cons.mpr ⟨tb_ok 1160 (by decide +kernel), List.forall_mem_cons.mpr ⟨tb_ok 1161 (by decide +kernel), List.forall_mem_cons.mpr ⟨tb_ok 1162 (by decide +kernel), List.forall_mem_cons.mpr ⟨tb_ok 1164 (by decide +kernel), List.forall_mem_cons.mpr ⟨tb_ok 1165 (by decide +kernel), List.forall_mem_cons.mpr ⟨tb_ok 1166 (by decide +kernel), List.forall_mem_cons.mpr ⟨tb_ok 1167 (by decide +kernel), List.forall_mem_cons.mpr ⟨tb_ok 1168 (by decide +kernel), List.forall_mem_cons.mpr ⟨tb_ok 1169 (by decide +kernel), List.forall_mem_cons.mpr ⟨tb_ok 1170 (by decide +kernel), List.forall_mem_cons.mpr ⟨tb_ok 1171 (by decide +kernel), List.forall_mem_cons.mpr ⟨tb_ok 1172 (by decide +kernel), List.forall_mem_cons.mpr ⟨tb_ok 1173 (by decide +kernel), fun _ h => absurd h List.not_mem_nil⟩⟩⟩⟩⟩⟩⟩⟩⟩⟩⟩⟩⟩⟩⟩⟩⟩⟩⟩⟩⟩⟩⟩⟩⟩⟩⟩⟩⟩⟩⟩⟩⟩⟩⟩⟩⟩⟩⟩⟩⟩⟩⟩⟩⟩⟩⟩⟩⟩⟩⟩⟩⟩⟩⟩⟩⟩⟩⟩⟩⟩)
theorem nw_RX12_ok : nwOK RX12 PI_RX12 := by
  refine ⟨fun k q h => ?_, fun k t h => ?_⟩
  · exact nwL_ok (l := []) (fun _ h => absurd h List.not_mem_nil) h
  · exact anL_ok (l := []) (fun _ h => absurd h List.not_mem_nil) h
def na_X12_init : List (Nat × Nat) := [(5, 1)]
def ca_X12_init (F : Nat) : List (Nat × cFn cM) := [(5, n_obj)]
theorem ca_X12_init_ok {q : cL} {D : Nat} (hD : 1 ≤ D) (F : Nat) : ∀ x ∈ ca_X12_init F, 1 ≤ D ∧ ceI q RX12 (D - 1) x.1 x.2 := List.forall_mem_cons.mpr ⟨⟨by omega, n_obj_ok (k := 1) (List.forall_mem_cons.mpr ⟨lw_good_of (tb_ok 1096 (by decide +kernel)) rfl, List.forall_mem_cons.mpr ⟨lw_good_of (tb_ok 28 (by decide +kernel)) rfl, List.forall_mem_cons.mpr ⟨lw_good_of (tb_ok 29 (by decide +kernel)) rfl, fun _ h => absurd h List.not_mem_nil⟩⟩⟩)⟩, fun _ h => absurd h List.not_mem_nil⟩
def kd_X12_init_46 (g : Nat → cM → Option (cM)) : cKf cM := fun vs st M => (lR vs 0).bind fun x0 => match st with
  | [] => g x0 M
  | _ => none
theorem kf_X12_init_46 {q : cL} {D : Nat} {M0 M1 : cM} {g : Nat → cM → Option (cM)} (hg : ∀ x0 M, g x0 M = some M1 → WI q D 2 M0 M1 cX12_init RX12 46 [some (.ref x0), none] [] M) : ∀ vs st M, kd_X12_init_46 g vs st M = some M1 → WI q D 2 M0 M1 cX12_init RX12 46 vs st M := by
  intro vs st M h
  unfold kd_X12_init_46 at h
  obtain ⟨x0, h0, h⟩ := Option.bind_eq_some_iff.mp h
  split at h
  · exact WI_weak (hg _ _ h) rfl ⟨lR_of h0, trivial⟩
  · cases h
def kd_X12_init_87 (g : Nat → cM → Option (cM)) : cKf cM := fun vs st M => (lR vs 0).bind fun x0 => match st with
  | [] => g x0 M
  | _ => none
theorem kf_X12_init_87 {q : cL} {D : Nat} {M0 M1 : cM} {g : Nat → cM → Option (cM)} (hg : ∀ x0 M, g x0 M = some M1 → WI q D 2 M0 M1 cX12_init RX12 87 [some (.ref x0), none] [] M) : ∀ vs st M, kd_X12_init_87 g vs st M = some M1 → WI q D 2 M0 M1 cX12_init RX12 87 vs st M := by
  intro vs st M h
  unfold kd_X12_init_87 at h
  obtain ⟨x0, h0, h⟩ := Option.bind_eq_some_iff.mp h
  split at h
  · exact WI_weak (hg _ _ h) rfl ⟨lR_of h0, trivial⟩
  · cases h
def kd_X12_init_128 (g : Nat → cM → Option (cM)) : cKf cM := fun vs st M => (lR vs 0).bind fun x0 => match st with
  | [] => g x0 M
  | _ => none
theorem kf_X12_init_128 {q : cL} {D : Nat} {M0 M1 : cM} {g : Nat → cM → Option (cM)} (hg : ∀ x0 M, g x0 M = some M1 → WI q D 2 M0 M1 cX12_init RX12 128 [some (.ref x0), none] [] M) : ∀ vs st M, kd_X12_init_128 g vs st M = some M1 → WI q D 2 M0 M1 cX12_init RX12 128 vs st M := by
  intro vs st M h
  unfold kd_X12_init_128 at h
  obtain ⟨x0, h0, h⟩ := Option.bind_eq_some_iff.mp h
  split at h
  · exact WI_weak (hg _ _ h) rfl ⟨lR_of h0, trivial⟩
  · cases h
def kd_X12_init_168 (g : Nat → cM → Option (cM)) : cKf cM := fun vs st M => (lR vs 0).bind fun x0 => match st with
  | [] => g x0 M
  | _ => none
theorem kf_X12_init_168 {q : cL} {D : Nat} {M0 M1 : cM} {g : Nat → cM → Option (cM)} (hg : ∀ x0 M, g x0 M = some M1 → WI q D 2 M0 M1 cX12_init RX12 168 [some (.ref x0), none] [] M) : ∀ vs st M, kd_X12_init_168 g vs st M = some M1 → WI q D 2 M0 M1 cX12_init RX12 168 vs st M := by
  intro vs st M h
  unfold kd_X12_init_168 at h
  obtain ⟨x0, h0, h⟩ := Option.bind_eq_some_iff.mp h
  split at h
  · exact WI_weak (hg _ _ h) rfl ⟨lR_of h0, trivial⟩
  · cases h
def kd_X12_init_205 (g : Nat → cM → Option (cM)) : cKf cM := fun vs st M => (lR vs 0).bind fun x0 => match st with
  | [] => g x0 M
  | _ => none
theorem kf_X12_init_205 {q : cL} {D : Nat} {M0 M1 : cM} {g : Nat → cM → Option (cM)} (hg : ∀ x0 M, g x0 M = some M1 → WI q D 2 M0 M1 cX12_init RX12 205 [some (.ref x0), none] [] M) : ∀ vs st M, kd_X12_init_205 g vs st M = some M1 → WI q D 2 M0 M1 cX12_init RX12 205 vs st M := by
  intro vs st M h
  unfold kd_X12_init_205 at h
  obtain ⟨x0, h0, h⟩ := Option.bind_eq_some_iff.mp h
  split at h
  · exact WI_weak (hg _ _ h) rfl ⟨lR_of h0, trivial⟩
  · cases h
def kd_X12_init_247 (g : Nat → cM → Option (cM)) : cKf cM := fun vs st M => (lR vs 0).bind fun x0 => match st with
  | [] => g x0 M
  | _ => none
theorem kf_X12_init_247 {q : cL} {D : Nat} {M0 M1 : cM} {g : Nat → cM → Option (cM)} (hg : ∀ x0 M, g x0 M = some M1 → WI q D 2 M0 M1 cX12_init RX12 247 [some (.ref x0), none] [] M) : ∀ vs st M, kd_X12_init_247 g vs st M = some M1 → WI q D 2 M0 M1 cX12_init RX12 247 vs st M := by
  intro vs st M h
  unfold kd_X12_init_247 at h
  obtain ⟨x0, h0, h⟩ := Option.bind_eq_some_iff.mp h
  split at h
  · exact WI_weak (hg _ _ h) rfl ⟨lR_of h0, trivial⟩
  · cases h
def kd_X12_init_290 (g : Nat → cM → Option (cM)) : cKf cM := fun vs st M => (lR vs 0).bind fun x0 => match st with
  | [] => g x0 M
  | _ => none
theorem kf_X12_init_290 {q : cL} {D : Nat} {M0 M1 : cM} {g : Nat → cM → Option (cM)} (hg : ∀ x0 M, g x0 M = some M1 → WI q D 2 M0 M1 cX12_init RX12 290 [some (.ref x0), none] [] M) : ∀ vs st M, kd_X12_init_290 g vs st M = some M1 → WI q D 2 M0 M1 cX12_init RX12 290 vs st M := by
  intro vs st M h
  unfold kd_X12_init_290 at h
  obtain ⟨x0, h0, h⟩ := Option.bind_eq_some_iff.mp h
  split at h
  · exact WI_weak (hg _ _ h) rfl ⟨lR_of h0, trivial⟩
  · cases h
def kd_X12_init_331 (g : Nat → cM → Option (cM)) : cKf cM := fun vs st M => (lR vs 0).bind fun x0 => match st with
  | [] => g x0 M
  | _ => none
theorem kf_X12_init_331 {q : cL} {D : Nat} {M0 M1 : cM} {g : Nat → cM → Option (cM)} (hg : ∀ x0 M, g x0 M = some M1 → WI q D 2 M0 M1 cX12_init RX12 331 [some (.ref x0), none] [] M) : ∀ vs st M, kd_X12_init_331 g vs st M = some M1 → WI q D 2 M0 M1 cX12_init RX12 331 vs st M := by
  intro vs st M h
  unfold kd_X12_init_331 at h
  obtain ⟨x0, h0, h⟩ := Option.bind_eq_some_iff.mp h
  split at h
  · exact WI_weak (hg _ _ h) rfl ⟨lR_of h0, trivial⟩
  · cases h
def kd_X12_init_376 (g : Nat → cM → Option (cM)) : cKf cM := fun vs st M => (lR vs 0).bind fun x0 => match st with
  | [] => g x0 M
  | _ => none
theorem kf_X12_init_376 {q : cL} {D : Nat} {M0 M1 : cM} {g : Nat → cM → Option (cM)} (hg : ∀ x0 M, g x0 M = some M1 → WI q D 2 M0 M1 cX12_init RX12 376 [some (.ref x0), none] [] M) : ∀ vs st M, kd_X12_init_376 g vs st M = some M1 → WI q D 2 M0 M1 cX12_init RX12 376 vs st M := by
  intro vs st M h
  unfold kd_X12_init_376 at h
  obtain ⟨x0, h0, h⟩ := Option.bind_eq_some_iff.mp h
  split at h
  · exact WI_weak (hg _ _ h) rfl ⟨lR_of h0, trivial⟩
  · cases h
def kd_X12_init_413 (g : Nat → cM → Option (cM)) : cKf cM := fun vs st M => (lR vs 0).bind fun x0 => match st with
  | [] => g x0 M
  | _ => none
theorem kf_X12_init_413 {q : cL} {D : Nat} {M0 M1 : cM} {g : Nat → cM → Option (cM)} (hg : ∀ x0 M, g x0 M = some M1 → WI q D 2 M0 M1 cX12_init RX12 413 [some (.ref x0), none] [] M) : ∀ vs st M, kd_X12_init_413 g vs st M = some M1 → WI q D 2 M0 M1 cX12_init RX12 413 vs st M := by
  intro vs st M h
  unfold kd_X12_init_413 at h
  obtain ⟨x0, h0, h⟩ := Option.bind_eq_some_iff.mp h
  split at h
  · exact WI_weak (hg _ _ h) rfl ⟨lR_of h0, trivial⟩
  · cases h
def kd_X12_init_459 (g : Nat → cM → Option (cM)) : cKf cM := fun vs st M => (lR vs 0).bind fun x0 => match st with
  | [] => g x0 M
  | _ => none
theorem kf_X12_init_459 {q : cL} {D : Nat} {M0 M1 : cM} {g : Nat → cM → Option (cM)} (hg : ∀ x0 M, g x0 M = some M1 → WI q D 2 M0 M1 cX12_init RX12 459 [some (.ref x0), none] [] M) : ∀ vs st M, kd_X12_init_459 g vs st M = some M1 → WI q D 2 M0 M1 cX12_init RX12 459 vs st M := by
  intro vs st M h
  unfold kd_X12_init_459 at h
  obtain ⟨x0, h0, h⟩ := Option.bind_eq_some_iff.mp h
  split at h
  · exact WI_weak (hg _ _ h) rfl ⟨lR_of h0, trivial⟩
  · cases h
def kd_X12_init_499 (g : Nat → Int32 → cM → Option (cM)) : cKf cM := fun vs st M => (lR vs 0).bind fun x0 => (lI vs 1).bind fun x1 => match st with
  | [] => g x0 x1 M
  | _ => none
theorem kf_X12_init_499 {q : cL} {D : Nat} {M0 M1 : cM} {g : Nat → Int32 → cM → Option (cM)} (hg : ∀ x0 x1 M, g x0 x1 M = some M1 → WI q D 2 M0 M1 cX12_init RX12 499 [some (.ref x0), some (.int x1)] [] M) : ∀ vs st M, kd_X12_init_499 g vs st M = some M1 → WI q D 2 M0 M1 cX12_init RX12 499 vs st M := by
  intro vs st M h
  unfold kd_X12_init_499 at h
  obtain ⟨x0, h0, h⟩ := Option.bind_eq_some_iff.mp h
  obtain ⟨x1, h1, h⟩ := Option.bind_eq_some_iff.mp h
  split at h
  · exact WI_weak (hg _ _ _ h) rfl ⟨lR_of h0, lI_of h1, trivial⟩
  · cases h
def kd_X12_init_520 (g : Nat → Int32 → cM → Option (cM)) : cKf cM := fun vs st M => (lR vs 0).bind fun x0 => (lI vs 1).bind fun x1 => match st with
  | [] => g x0 x1 M
  | _ => none
theorem kf_X12_init_520 {q : cL} {D : Nat} {M0 M1 : cM} {g : Nat → Int32 → cM → Option (cM)} (hg : ∀ x0 x1 M, g x0 x1 M = some M1 → WI q D 2 M0 M1 cX12_init RX12 520 [some (.ref x0), some (.int x1)] [] M) : ∀ vs st M, kd_X12_init_520 g vs st M = some M1 → WI q D 2 M0 M1 cX12_init RX12 520 vs st M := by
  intro vs st M h
  unfold kd_X12_init_520 at h
  obtain ⟨x0, h0, h⟩ := Option.bind_eq_some_iff.mp h
  obtain ⟨x1, h1, h⟩ := Option.bind_eq_some_iff.mp h
  split at h
  · exact WI_weak (hg _ _ _ h) rfl ⟨lR_of h0, lI_of h1, trivial⟩
  · cases h
set_option maxRecDepth 20000 in
theorem e_X12_init_520 (F : Nat) (t520 : Nat → Int32 → cM → Option (cM)) (x0 : Nat) (x1 : Int32) (M : cM) : b_X12_init_520 F t520 x0 x1 M = run T_X12_init PI_RX12 true 5 (naL na_X12_init) (caL (ca_X12_init F)) (lkN []) (lkN []) krV kxN (spL [520]) (KL [(520, kd_X12_init_520 t520)]) 274 520 [some (.ref x0), some (.int x1)] [] M := rfl
theorem ok_X12_init_520 {q : cL} {D : Nat} (hD : 1 ≤ D) {M0 M1 : cM} (hl : M0.length ≤ M1.length ∧ msz M0 ≤ msz M1) {F : Nat} (n : Nat) : ∀ x0 x1 M, f_X12_init_520 F n x0 x1 M = some M1 → WI q D 2 M0 M1 cX12_init RX12 520 [some (.ref x0), some (.int x1)] [] M := by
  induction n with
  | zero => intro x0 x1 M h; cases h
  | succ n ih =>
    intro x0 x1 M h
    exact segW_ok hl PI_RX12_ok nw_RX12_ok ar_ok T_X12_init_ok (ca_X12_init_ok hD F) (List.forall_mem_cons.mpr ⟨kf_X12_init_520 (ih), fun _ h => absurd h List.not_mem_nil⟩) ((e_X12_init_520 F (f_X12_init_520 F n) x0 x1 M).symm.trans h)
set_option maxRecDepth 20000 in
theorem e_X12_init_499 (F : Nat) (t499 : Nat → Int32 → cM → Option (cM)) (t520 : Nat → Int32 → cM → Option (cM)) (x0 : Nat) (x1 : Int32) (M : cM) : b_X12_init_499 F t499 t520 x0 x1 M = run T_X12_init PI_RX12 true 5 (naL na_X12_init) (caL (ca_X12_init F)) (lkN []) (lkN []) krV kxN (spL [499, 520]) (KL [(499, kd_X12_init_499 t499), (520, kd_X12_init_520 t520)]) 274 499 [some (.ref x0), some (.int x1)] [] M := rfl
theorem ok_X12_init_499 {q : cL} {D : Nat} (hD : 1 ≤ D) {M0 M1 : cM} (hl : M0.length ≤ M1.length ∧ msz M0 ≤ msz M1) {F : Nat} (n : Nat) : ∀ x0 x1 M, f_X12_init_499 F n x0 x1 M = some M1 → WI q D 2 M0 M1 cX12_init RX12 499 [some (.ref x0), some (.int x1)] [] M := by
  induction n with
  | zero => intro x0 x1 M h; cases h
  | succ n ih =>
    intro x0 x1 M h
    exact segW_ok hl PI_RX12_ok nw_RX12_ok ar_ok T_X12_init_ok (ca_X12_init_ok hD F) (List.forall_mem_cons.mpr ⟨kf_X12_init_499 (ih), List.forall_mem_cons.mpr ⟨kf_X12_init_520 (ok_X12_init_520 hD hl F), fun _ h => absurd h List.not_mem_nil⟩⟩) ((e_X12_init_499 F (f_X12_init_499 F n) (f_X12_init_520 F F) x0 x1 M).symm.trans h)
set_option maxRecDepth 20000 in
theorem e_X12_init_459 (F : Nat) (t499 : Nat → Int32 → cM → Option (cM)) (x0 : Nat) (M : cM) : b_X12_init_459 F t499 x0 M = run T_X12_init PI_RX12 true 5 (naL na_X12_init) (caL (ca_X12_init F)) (lkN []) (lkN []) krV kxN (spL [499]) (KL [(499, kd_X12_init_499 t499)]) 274 459 [some (.ref x0), none] [] M := rfl
theorem ok_X12_init_459 {q : cL} {D : Nat} (hD : 1 ≤ D) {M0 M1 : cM} (hl : M0.length ≤ M1.length ∧ msz M0 ≤ msz M1) {F : Nat} : ∀ x0 M, f_X12_init_459 F x0 M = some M1 → WI q D 2 M0 M1 cX12_init RX12 459 [some (.ref x0), none] [] M := by
  intro x0 M h
  exact segW_ok hl PI_RX12_ok nw_RX12_ok ar_ok T_X12_init_ok (ca_X12_init_ok hD F) (List.forall_mem_cons.mpr ⟨kf_X12_init_499 (ok_X12_init_499 hD hl F), fun _ h => absurd h List.not_mem_nil⟩) ((e_X12_init_459 F (f_X12_init_499 F F) x0 M).symm.trans h)
set_option maxRecDepth 20000 in
theorem e_X12_init_413 (F : Nat) (t459 : Nat → cM → Option (cM)) (x0 : Nat) (M : cM) : b_X12_init_413 F t459 x0 M = run T_X12_init PI_RX12 true 5 (naL na_X12_init) (caL (ca_X12_init F)) (lkN []) (lkN []) krV kxN (spL [459]) (KL [(459, kd_X12_init_459 t459)]) 274 413 [some (.ref x0), none] [] M := rfl
theorem ok_X12_init_413 {q : cL} {D : Nat} (hD : 1 ≤ D) {M0 M1 : cM} (hl : M0.length ≤ M1.length ∧ msz M0 ≤ msz M1) {F : Nat} : ∀ x0 M, f_X12_init_413 F x0 M = some M1 → WI q D 2 M0 M1 cX12_init RX12 413 [some (.ref x0), none] [] M := by
  intro x0 M h
  exact segW_ok hl PI_RX12_ok nw_RX12_ok ar_ok T_X12_init_ok (ca_X12_init_ok hD F) (List.forall_mem_cons.mpr ⟨kf_X12_init_459 (ok_X12_init_459 hD hl), fun _ h => absurd h List.not_mem_nil⟩) ((e_X12_init_413 F (f_X12_init_459 F) x0 M).symm.trans h)
set_option maxRecDepth 20000 in
theorem e_X12_init_376 (F : Nat) (t413 : Nat → cM → Option (cM)) (x0 : Nat) (M : cM) : b_X12_init_376 F t413 x0 M = run T_X12_init PI_RX12 true 5 (naL na_X12_init) (caL (ca_X12_init F)) (lkN []) (lkN []) krV kxN (spL [413]) (KL [(413, kd_X12_init_413 t413)]) 274 376 [some (.ref x0), none] [] M := rfl
theorem ok_X12_init_376 {q : cL} {D : Nat} (hD : 1 ≤ D) {M0 M1 : cM} (hl : M0.length ≤ M1.length ∧ msz M0 ≤ msz M1) {F : Nat} : ∀ x0 M, f_X12_init_376 F x0 M = some M1 → WI q D 2 M0 M1 cX12_init RX12 376 [some (.ref x0), none] [] M := by
  intro x0 M h
  exact segW_ok hl PI_RX12_ok nw_RX12_ok ar_ok T_X12_init_ok (ca_X12_init_ok hD F) (List.forall_mem_cons.mpr ⟨kf_X12_init_413 (ok_X12_init_413 hD hl), fun _ h => absurd h List.not_mem_nil⟩) ((e_X12_init_376 F (f_X12_init_413 F) x0 M).symm.trans h)
set_option maxRecDepth 20000 in
theorem e_X12_init_331 (F : Nat) (t376 : Nat → cM → Option (cM)) (x0 : Nat) (M : cM) : b_X12_init_331 F t376 x0 M = run T_X12_init PI_RX12 true 5 (naL na_X12_init) (caL (ca_X12_init F)) (lkN []) (lkN []) krV kxN (spL [376]) (KL [(376, kd_X12_init_376 t376)]) 274 331 [some (.ref x0), none] [] M := rfl
theorem ok_X12_init_331 {q : cL} {D : Nat} (hD : 1 ≤ D) {M0 M1 : cM} (hl : M0.length ≤ M1.length ∧ msz M0 ≤ msz M1) {F : Nat} : ∀ x0 M, f_X12_init_331 F x0 M = some M1 → WI q D 2 M0 M1 cX12_init RX12 331 [some (.ref x0), none] [] M := by
  intro x0 M h
  exact segW_ok hl PI_RX12_ok nw_RX12_ok ar_ok T_X12_init_ok (ca_X12_init_ok hD F) (List.forall_mem_cons.mpr ⟨kf_X12_init_376 (ok_X12_init_376 hD hl), fun _ h => absurd h List.not_mem_nil⟩) ((e_X12_init_331 F (f_X12_init_376 F) x0 M).symm.trans h)
set_option maxRecDepth 20000 in
theorem e_X12_init_290 (F : Nat) (t331 : Nat → cM → Option (cM)) (x0 : Nat) (M : cM) : b_X12_init_290 F t331 x0 M = run T_X12_init PI_RX12 true 5 (naL na_X12_init) (caL (ca_X12_init F)) (lkN []) (lkN []) krV kxN (spL [331]) (KL [(331, kd_X12_init_331 t331)]) 274 290 [some (.ref x0), none] [] M := rfl
theorem ok_X12_init_290 {q : cL} {D : Nat} (hD : 1 ≤ D) {M0 M1 : cM} (hl : M0.length ≤ M1.length ∧ msz M0 ≤ msz M1) {F : Nat} : ∀ x0 M, f_X12_init_290 F x0 M = some M1 → WI q D 2 M0 M1 cX12_init RX12 290 [some (.ref x0), none] [] M := by
  intro x0 M h
  exact segW_ok hl PI_RX12_ok nw_RX12_ok ar_ok T_X12_init_ok (ca_X12_init_ok hD F) (List.forall_mem_cons.mpr ⟨kf_X12_init_331 (ok_X12_init_331 hD hl), fun _ h => absurd h List.not_mem_nil⟩) ((e_X12_init_290 F (f_X12_init_331 F) x0 M).symm.trans h)
set_option maxRecDepth 20000 in
theorem e_X12_init_247 (F : Nat) (t290 : Nat → cM → Option (cM)) (x0 : Nat) (M : cM) : b_X12_init_247 F t290 x0 M = run T_X12_init PI_RX12 true 5 (naL na_X12_init) (caL (ca_X12_init F)) (lkN []) (lkN []) krV kxN (spL [290]) (KL [(290, kd_X12_init_290 t290)]) 274 247 [some (.ref x0), none] [] M := rfl
theorem ok_X12_init_247 {q : cL} {D : Nat} (hD : 1 ≤ D) {M0 M1 : cM} (hl : M0.length ≤ M1.length ∧ msz M0 ≤ msz M1) {F : Nat} : ∀ x0 M, f_X12_init_247 F x0 M = some M1 → WI q D 2 M0 M1 cX12_init RX12 247 [some (.ref x0), none] [] M := by
  intro x0 M h
  exact segW_ok hl PI_RX12_ok nw_RX12_ok ar_ok T_X12_init_ok (ca_X12_init_ok hD F) (List.forall_mem_cons.mpr ⟨kf_X12_init_290 (ok_X12_init_290 hD hl), fun _ h => absurd h List.not_mem_nil⟩) ((e_X12_init_247 F (f_X12_init_290 F) x0 M).symm.trans h)
set_option maxRecDepth 20000 in
theorem e_X12_init_205 (F : Nat) (t247 : Nat → cM → Option (cM)) (x0 : Nat) (M : cM) : b_X12_init_205 F t247 x0 M = run T_X12_init PI_RX12 true 5 (naL na_X12_init) (caL (ca_X12_init F)) (lkN []) (lkN []) krV kxN (spL [247]) (KL [(247, kd_X12_init_247 t247)]) 274 205 [some (.ref x0), none] [] M := rfl
theorem ok_X12_init_205 {q : cL} {D : Nat} (hD : 1 ≤ D) {M0 M1 : cM} (hl : M0.length ≤ M1.length ∧ msz M0 ≤ msz M1) {F : Nat} : ∀ x0 M, f_X12_init_205 F x0 M = some M1 → WI q D 2 M0 M1 cX12_init RX12 205 [some (.ref x0), none] [] M := by
  intro x0 M h
  exact segW_ok hl PI_RX12_ok nw_RX12_ok ar_ok T_X12_init_ok (ca_X12_init_ok hD F) (List.forall_mem_cons.mpr ⟨kf_X12_init_247 (ok_X12_init_247 hD hl), fun _ h => absurd h List.not_mem_nil⟩) ((e_X12_init_205 F (f_X12_init_247 F) x0 M).symm.trans h)
set_option maxRecDepth 20000 in
theorem e_X12_init_168 (F : Nat) (t205 : Nat → cM → Option (cM)) (x0 : Nat) (M : cM) : b_X12_init_168 F t205 x0 M = run T_X12_init PI_RX12 true 5 (naL na_X12_init) (caL (ca_X12_init F)) (lkN []) (lkN []) krV kxN (spL [205]) (KL [(205, kd_X12_init_205 t205)]) 274 168 [some (.ref x0), none] [] M := rfl
theorem ok_X12_init_168 {q : cL} {D : Nat} (hD : 1 ≤ D) {M0 M1 : cM} (hl : M0.length ≤ M1.length ∧ msz M0 ≤ msz M1) {F : Nat} : ∀ x0 M, f_X12_init_168 F x0 M = some M1 → WI q D 2 M0 M1 cX12_init RX12 168 [some (.ref x0), none] [] M := by
  intro x0 M h
  exact segW_ok hl PI_RX12_ok nw_RX12_ok ar_ok T_X12_init_ok (ca_X12_init_ok hD F) (List.forall_mem_cons.mpr ⟨kf_X12_init_205 (ok_X12_init_205 hD hl), fun _ h => absurd h List.not_mem_nil⟩) ((e_X12_init_168 F (f_X12_init_205 F) x0 M).symm.trans h)
set_option maxRecDepth 20000 in
theorem e_X12_init_128 (F : Nat) (t168 : Nat → cM → Option (cM)) (x0 : Nat) (M : cM) : b_X12_init_128 F t168 x0 M = run T_X12_init PI_RX12 true 5 (naL na_X12_init) (caL (ca_X12_init F)) (lkN []) (lkN []) krV kxN (spL [168]) (KL [(168, kd_X12_init_168 t168)]) 274 128 [some (.ref x0), none] [] M := rfl
theorem ok_X12_init_128 {q : cL} {D : Nat} (hD : 1 ≤ D) {M0 M1 : cM} (hl : M0.length ≤ M1.length ∧ msz M0 ≤ msz M1) {F : Nat} : ∀ x0 M, f_X12_init_128 F x0 M = some M1 → WI q D 2 M0 M1 cX12_init RX12 128 [some (.ref x0), none] [] M := by
  intro x0 M h
  exact segW_ok hl PI_RX12_ok nw_RX12_ok ar_ok T_X12_init_ok (ca_X12_init_ok hD F) (List.forall_mem_cons.mpr ⟨kf_X12_init_168 (ok_X12_init_168 hD hl), fun _ h => absurd h List.not_mem_nil⟩) ((e_X12_init_128 F (f_X12_init_168 F) x0 M).symm.trans h)
set_option maxRecDepth 20000 in
theorem e_X12_init_87 (F : Nat) (t128 : Nat → cM → Option (cM)) (x0 : Nat) (M : cM) : b_X12_init_87 F t128 x0 M = run T_X12_init PI_RX12 true 5 (naL na_X12_init) (caL (ca_X12_init F)) (lkN []) (lkN []) krV kxN (spL [128]) (KL [(128, kd_X12_init_128 t128)]) 274 87 [some (.ref x0), none] [] M := rfl
theorem ok_X12_init_87 {q : cL} {D : Nat} (hD : 1 ≤ D) {M0 M1 : cM} (hl : M0.length ≤ M1.length ∧ msz M0 ≤ msz M1) {F : Nat} : ∀ x0 M, f_X12_init_87 F x0 M = some M1 → WI q D 2 M0 M1 cX12_init RX12 87 [some (.ref x0), none] [] M := by
  intro x0 M h
  exact segW_ok hl PI_RX12_ok nw_RX12_ok ar_ok T_X12_init_ok (ca_X12_init_ok hD F) (List.forall_mem_cons.mpr ⟨kf_X12_init_128 (ok_X12_init_128 hD hl), fun _ h => absurd h List.not_mem_nil⟩) ((e_X12_init_87 F (f_X12_init_128 F) x0 M).symm.trans h)
set_option maxRecDepth 20000 in
theorem e_X12_init_46 (F : Nat) (t87 : Nat → cM → Option (cM)) (x0 : Nat) (M : cM) : b_X12_init_46 F t87 x0 M = run T_X12_init PI_RX12 true 5 (naL na_X12_init) (caL (ca_X12_init F)) (lkN []) (lkN []) krV kxN (spL [87]) (KL [(87, kd_X12_init_87 t87)]) 274 46 [some (.ref x0), none] [] M := rfl
theorem ok_X12_init_46 {q : cL} {D : Nat} (hD : 1 ≤ D) {M0 M1 : cM} (hl : M0.length ≤ M1.length ∧ msz M0 ≤ msz M1) {F : Nat} : ∀ x0 M, f_X12_init_46 F x0 M = some M1 → WI q D 2 M0 M1 cX12_init RX12 46 [some (.ref x0), none] [] M := by
  intro x0 M h
  exact segW_ok hl PI_RX12_ok nw_RX12_ok ar_ok T_X12_init_ok (ca_X12_init_ok hD F) (List.forall_mem_cons.mpr ⟨kf_X12_init_87 (ok_X12_init_87 hD hl), fun _ h => absurd h List.not_mem_nil⟩) ((e_X12_init_46 F (f_X12_init_87 F) x0 M).symm.trans h)
set_option maxRecDepth 20000 in
theorem e_X12_init_0 (F : Nat) (t46 : Nat → cM → Option (cM)) (x0 : Nat) (M : cM) : b_X12_init_0 F t46 x0 M = run T_X12_init PI_RX12 true 5 (naL na_X12_init) (caL (ca_X12_init F)) (lkN []) (lkN []) krV kxN (spL [46]) (KL [(46, kd_X12_init_46 t46)]) 274 0 [some (.ref x0), none] [] M := rfl
theorem ok_X12_init_0 {q : cL} {D : Nat} (hD : 1 ≤ D) {M0 M1 : cM} (hl : M0.length ≤ M1.length ∧ msz M0 ≤ msz M1) {F : Nat} : ∀ x0 M, f_X12_init_0 F x0 M = some M1 → WI q D 2 M0 M1 cX12_init RX12 0 [some (.ref x0), none] [] M := by
  intro x0 M h
  exact segW_ok hl PI_RX12_ok nw_RX12_ok ar_ok T_X12_init_ok (ca_X12_init_ok hD F) (List.forall_mem_cons.mpr ⟨kf_X12_init_46 (ok_X12_init_46 hD hl), fun _ h => absurd h List.not_mem_nil⟩) ((e_X12_init_0 F (f_X12_init_46 F) x0 M).symm.trans h)
theorem c_X12_init {q : cL} {D : Nat} (hD : 1 ≤ D) (F : Nat) (a0 : Nat) (M M1 : cM) (hl : M.length ≤ M1.length ∧ msz M ≤ msz M1) (h : f_X12_init F a0 M = some M1) : CI q yX12_init (.code yX12_init cX12_init 2 none) D [.ref a0] M M1 :=
  CI_ofW (own := RX12) (by decide +kernel) rfl rfl (Nat.le_of_ble_eq_true rfl) hl (ok_X12_init_0 hD hl a0 M h)
