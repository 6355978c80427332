/-! THE METHODS AS PURE FUNCTIONS (laid by wip/whole/tools/gen.py): b_y_pc a body from cut to cut, f_y_pc a cut, f_y the method; F is the fuel of loops -/
-- PatchbayScript$Atom.isCut(III)Z
def b_X0_isCut_0 (F : Nat) : Int32 → Int32 → Int32 → cM → Option (Int32 × cM) := fun x0 x1 x2 M =>
  if x0 < 0 then (
  some ((0 : Int32), M))
  else (
  if (30 : Int32) ≤ x0 then (
  some ((0 : Int32), M))
  else (
  if x1 < 0 then (
  some ((0 : Int32), M))
  else (
  if (30 : Int32) ≤ x1 then (
  some ((0 : Int32), M))
  else (
  if x2 < 0 then (
  some ((0 : Int32), M))
  else (
  if (4 : Int32) ≤ x2 then (
  some ((0 : Int32), M))
  else (
  some ((1 : Int32), M)))))))
def f_X0_isCut_0 (F : Nat) : Int32 → Int32 → Int32 → cM → Option (Int32 × cM) := fun x0 x1 x2 M => b_X0_isCut_0 F x0 x1 x2 M
def f_X0_isCut (F : Nat) : Int32 → Int32 → Int32 → cM → Option (Int32 × cM) := fun a0 a1 a2 M => f_X0_isCut_0 F a0 a1 a2 M
-- PatchbayScript$Atom.isEach(III)Z
def b_X0_isEach_0 (F : Nat) : Int32 → Int32 → Int32 → cM → Option (Int32 × cM) := fun x0 x1 x2 M =>
  if x0 < 0 then (
  some ((0 : Int32), M))
  else (
  if (4 : Int32) ≤ x0 then (
  some ((0 : Int32), M))
  else (
  if x1 < 0 then (
  some ((0 : Int32), M))
  else (
  if (3 : Int32) ≤ x1 then (
  some ((0 : Int32), M))
  else (
  if x2 < 0 then (
  some ((0 : Int32), M))
  else (
  if (6 : Int32) ≤ x2 then (
  some ((0 : Int32), M))
  else (
  some ((1 : Int32), M)))))))
def f_X0_isEach_0 (F : Nat) : Int32 → Int32 → Int32 → cM → Option (Int32 × cM) := fun x0 x1 x2 M => b_X0_isEach_0 F x0 x1 x2 M
def f_X0_isEach (F : Nat) : Int32 → Int32 → Int32 → cM → Option (Int32 × cM) := fun a0 a1 a2 M => f_X0_isEach_0 F a0 a1 a2 M
-- PatchbayScript$Atom.cut(III)I
def b_X0_cut_0 (F : Nat) : Int32 → Int32 → Int32 → cM → Option (Int32 × cM) := fun x0 x1 x2 M =>
  some ((((x0 * (30 : Int32)) + x1) * (4 : Int32)) + x2, M)
def f_X0_cut_0 (F : Nat) : Int32 → Int32 → Int32 → cM → Option (Int32 × cM) := fun x0 x1 x2 M => b_X0_cut_0 F x0 x1 x2 M
def f_X0_cut (F : Nat) : Int32 → Int32 → Int32 → cM → Option (Int32 × cM) := fun a0 a1 a2 M => f_X0_cut_0 F a0 a1 a2 M
-- PatchbayScript$Atom.each(III)I
def b_X0_each_0 (F : Nat) : Int32 → Int32 → Int32 → cM → Option (Int32 × cM) := fun x0 x1 x2 M =>
  some (((3600 : Int32) + (((x0 * (3 : Int32)) + x1) * (6 : Int32))) + x2, M)
def f_X0_each_0 (F : Nat) : Int32 → Int32 → Int32 → cM → Option (Int32 × cM) := fun x0 x1 x2 M => b_X0_each_0 F x0 x1 x2 M
def f_X0_each (F : Nat) : Int32 → Int32 → Int32 → cM → Option (Int32 × cM) := fun a0 a1 a2 M => f_X0_each_0 F a0 a1 a2 M
-- PatchbayScript$Text.at(I)C
def b_X10_at_0 (F : Nat) : Nat → Int32 → cM → Option (Int32 × cM) := fun x0 x1 M =>
  if x1 < 0 then (
  some ((0 : Int32), M))
  else (
  (fI M x0 8 2).bind fun v1 =>
  if v1 ≤ x1 then (
  some ((0 : Int32), M))
  else (
  if (20 : Int32) ≤ x1 then (
  some ((0 : Int32), M))
  else (
  (fR M x0 8 0).bind fun v2 =>
  (aI 2 M v2 x1).bind fun v3 =>
  if vp_nar .char v3 = v3 then some (v3, M) else none)))
def f_X10_at_0 (F : Nat) : Nat → Int32 → cM → Option (Int32 × cM) := fun x0 x1 M => b_X10_at_0 F x0 x1 M
def f_X10_at (F : Nat) : Nat → Int32 → cM → Option (Int32 × cM) := fun a0 a1 M => if isC M a0 8 = true then f_X10_at_0 F a0 a1 M else none
-- PatchbayScript$Atom.withSign(IIC)I
def b_X0_withSign_0 (F : Nat) : Int32 → Int32 → Int32 → cM → Option (Int32 × cM) := fun x0 x1 x2 M =>
  some ((x0 ||| (268435456 : Int32)) ||| (x2 <<< (((7 : Int32) * ((3 : Int32) - x1)) &&& 31)), M)
def f_X0_withSign_0 (F : Nat) : Int32 → Int32 → Int32 → cM → Option (Int32 × cM) := fun x0 x1 x2 M => b_X0_withSign_0 F x0 x1 x2 M
def f_X0_withSign (F : Nat) : Int32 → Int32 → Int32 → cM → Option (Int32 × cM) := fun a0 a1 a2 M => f_X0_withSign_0 F a0 a1 a2 M
-- PatchbayScript$Atom.constOf(LPatchbayScript$Text;)I
def b_X0_constOf_4 (F : Nat) (t4 : Nat → Int32 → Int32 → cM → Option (Int32 × cM)) : Nat → Int32 → Int32 → cM → Option (Int32 × cM) := fun x0 x1 x2 M =>
  if (4 : Int32) ≤ x2 then (
  some (x1, M))
  else (
  (fI M x0 8 2).bind fun v1 =>
  if v1 ≤ x2 then (
  some (x1, M))
  else (
  (f_X10_at F x0 x2 M).bind fun v2 =>
  (f_X0_withSign F x1 x2 v2.1 v2.2).bind fun v3 =>
  t4 x0 v3.1 (x2 + (1 : Int32)) v3.2))
def f_X0_constOf_4 (F : Nat) : Nat → Nat → Int32 → Int32 → cM → Option (Int32 × cM) := fun n => Nat.rec (fun _ _ _ _ => none) (fun _ ih x0 x1 x2 M => b_X0_constOf_4 F (ih) x0 x1 x2 M) n
def b_X0_constOf_0 (F : Nat) (t4 : Nat → Int32 → Int32 → cM → Option (Int32 × cM)) : Nat → cM → Option (Int32 × cM) := fun x0 M =>
  t4 x0 (0 : Int32) (0 : Int32) M
def f_X0_constOf_0 (F : Nat) : Nat → cM → Option (Int32 × cM) := fun x0 M => b_X0_constOf_0 F (f_X0_constOf_4 F F) x0 M
def f_X0_constOf (F : Nat) : Nat → cM → Option (Int32 × cM) := fun a0 M => f_X0_constOf_0 F a0 M
-- PatchbayScript$Atom.signOf(II)C
def b_X0_signOf_0 (F : Nat) : Int32 → Int32 → cM → Option (Int32 × cM) := fun x0 x1 M =>
  if (4 : Int32) ≤ x1 then (
  some ((0 : Int32), M))
  else (
  if vp_nar .char ((((x0 >>> (((7 : Int32) * ((3 : Int32) - x1)) &&& 31)) &&& (127 : Int32)).toUInt32 % 65536).toInt32) = (((x0 >>> (((7 : Int32) * ((3 : Int32) - x1)) &&& 31)) &&& (127 : Int32)).toUInt32 % 65536).toInt32 then some ((((x0 >>> (((7 : Int32) * ((3 : Int32) - x1)) &&& 31)) &&& (127 : Int32)).toUInt32 % 65536).toInt32, M) else none)
def f_X0_signOf_0 (F : Nat) : Int32 → Int32 → cM → Option (Int32 × cM) := fun x0 x1 M => b_X0_signOf_0 F x0 x1 M
def f_X0_signOf (F : Nat) : Int32 → Int32 → cM → Option (Int32 × cM) := fun a0 a1 M => f_X0_signOf_0 F a0 a1 M
-- PatchbayScript$Atom.signsOf(I)I
def b_X0_signsOf_4 (F : Nat) (t4 : Int32 → Int32 → Int32 → cM → Option (Int32 × cM)) : Int32 → Int32 → Int32 → cM → Option (Int32 × cM) := fun x0 x1 x2 M =>
  if (4 : Int32) ≤ x2 then (
  some (x1, M))
  else (
  if (x0 >>> (((7 : Int32) * x2) &&& 31)) &&& (127 : Int32) = 0 then (
  t4 x0 x1 (x2 + (1 : Int32)) M)
  else (
  t4 x0 (x1 + (1 : Int32)) (x2 + (1 : Int32)) M))
def f_X0_signsOf_4 (F : Nat) : Nat → Int32 → Int32 → Int32 → cM → Option (Int32 × cM) := fun n => Nat.rec (fun _ _ _ _ => none) (fun _ ih x0 x1 x2 M => b_X0_signsOf_4 F (ih) x0 x1 x2 M) n
def b_X0_signsOf_0 (F : Nat) (t4 : Int32 → Int32 → Int32 → cM → Option (Int32 × cM)) : Int32 → cM → Option (Int32 × cM) := fun x0 M =>
  t4 x0 (0 : Int32) (0 : Int32) M
def f_X0_signsOf_0 (F : Nat) : Int32 → cM → Option (Int32 × cM) := fun x0 M => b_X0_signsOf_0 F (f_X0_signsOf_4 F F) x0 M
def f_X0_signsOf (F : Nat) : Int32 → cM → Option (Int32 × cM) := fun a0 M => f_X0_signsOf_0 F a0 M
-- PatchbayScript$Atom.kindOf(I)I
def b_X0_kindOf_0 (F : Nat) : Int32 → cM → Option (Int32 × cM) := fun x0 M =>
  if x0 &&& (268435456 : Int32) = 0 then (
  if (3600 : Int32) ≤ x0 then (
  some ((2 : Int32), M))
  else (
  some ((1 : Int32), M)))
  else (
  some ((0 : Int32), M))
def f_X0_kindOf_0 (F : Nat) : Int32 → cM → Option (Int32 × cM) := fun x0 M => b_X0_kindOf_0 F x0 M
def f_X0_kindOf (F : Nat) : Int32 → cM → Option (Int32 × cM) := fun a0 M => f_X0_kindOf_0 F a0 M
-- PatchbayScript$Atom.partOfCut(II)I
def b_X0_partOfCut_0 (F : Nat) : Int32 → Int32 → cM → Option (Int32 × cM) := fun x0 x1 M =>
  if x1 = (1 : Int32) then (
  dz (4 : Int32) (
  dz (30 : Int32) (
  some ((x0 / (4 : Int32)) / (30 : Int32), M))))
  else (
  if x1 = (2 : Int32) then (
  dz (4 : Int32) (
  dz (30 : Int32) (
  some ((x0 / (4 : Int32)) - (x0 / (4 : Int32)) / (30 : Int32) * (30 : Int32), M))))
  else (
  dz (4 : Int32) (
  some (x0 - x0 / (4 : Int32) * (4 : Int32), M))))
def f_X0_partOfCut_0 (F : Nat) : Int32 → Int32 → cM → Option (Int32 × cM) := fun x0 x1 M => b_X0_partOfCut_0 F x0 x1 M
def f_X0_partOfCut (F : Nat) : Int32 → Int32 → cM → Option (Int32 × cM) := fun a0 a1 M => f_X0_partOfCut_0 F a0 a1 M
-- PatchbayScript$Atom.partOfEach(II)I
def b_X0_partOfEach_0 (F : Nat) : Int32 → Int32 → cM → Option (Int32 × cM) := fun x0 x1 M =>
  if x1 = (1 : Int32) then (
  dz (6 : Int32) (
  dz (3 : Int32) (
  some ((x0 / (6 : Int32)) / (3 : Int32), M))))
  else (
  if x1 = (2 : Int32) then (
  dz (6 : Int32) (
  dz (3 : Int32) (
  some ((x0 / (6 : Int32)) - (x0 / (6 : Int32)) / (3 : Int32) * (3 : Int32), M))))
  else (
  dz (6 : Int32) (
  some (x0 - x0 / (6 : Int32) * (6 : Int32), M))))
def f_X0_partOfEach_0 (F : Nat) : Int32 → Int32 → cM → Option (Int32 × cM) := fun x0 x1 M => b_X0_partOfEach_0 F x0 x1 M
def f_X0_partOfEach (F : Nat) : Int32 → Int32 → cM → Option (Int32 × cM) := fun a0 a1 M => f_X0_partOfEach_0 F a0 a1 M
-- PatchbayScript$Atom.partOf(II)I
def b_X0_partOf_0 (F : Nat) : Int32 → Int32 → cM → Option (Int32 × cM) := fun x0 x1 M =>
  (f_X0_kindOf F x0 M).bind fun v1 =>
  if v1.1 = (1 : Int32) then (
  (f_X0_partOfCut F x0 x1 v1.2).bind fun v2 =>
  some (v2.1, v2.2))
  else (
  (f_X0_partOfEach F (x0 - (3600 : Int32)) x1 v1.2).bind fun v3 =>
  some (v3.1, v3.2))
def f_X0_partOf_0 (F : Nat) : Int32 → Int32 → cM → Option (Int32 × cM) := fun x0 x1 M => b_X0_partOf_0 F x0 x1 M
def f_X0_partOf (F : Nat) : Int32 → Int32 → cM → Option (Int32 × cM) := fun a0 a1 M => f_X0_partOf_0 F a0 a1 M
-- PatchbayScript$Atom.weightOfSpot(I)I
def b_X0_weightOfSpot_0 (F : Nat) : Int32 → cM → Option (Int32 × cM) := fun x0 M =>
  if (6 : Int32) ≤ x0 then (
  dz (3 : Int32) (
  if x0 - x0 / (3 : Int32) * (3 : Int32) = (1 : Int32) then (
  some ((2 : Int32), M))
  else (
  some ((1 : Int32), M))))
  else (
  dz (3 : Int32) (
  some ((3 : Int32) + (x0 - x0 / (3 : Int32) * (3 : Int32)), M)))
def f_X0_weightOfSpot_0 (F : Nat) : Int32 → cM → Option (Int32 × cM) := fun x0 M => b_X0_weightOfSpot_0 F x0 M
def f_X0_weightOfSpot (F : Nat) : Int32 → cM → Option (Int32 × cM) := fun a0 M => f_X0_weightOfSpot_0 F a0 M
-- PatchbayScript$Atom.weightOfConst(I)I
def b_X0_weightOfConst_0 (F : Nat) : Int32 → cM → Option (Int32 × cM) := fun x0 M =>
  some ((4 : Int32) + ((3 : Int32) * x0), M)
def f_X0_weightOfConst_0 (F : Nat) : Int32 → cM → Option (Int32 × cM) := fun x0 M => b_X0_weightOfConst_0 F x0 M
def f_X0_weightOfConst (F : Nat) : Int32 → cM → Option (Int32 × cM) := fun a0 M => f_X0_weightOfConst_0 F a0 M
-- PatchbayScript$Atom.weightOfCut(III)I
def b_X0_weightOfCut_0 (F : Nat) : Int32 → Int32 → Int32 → cM → Option (Int32 × cM) := fun x0 x1 x2 M =>
  (f_X0_weightOfSpot F x0 M).bind fun v1 =>
  (f_X0_weightOfSpot F x1 v1.2).bind fun v2 =>
  if x2 = 0 then (
  some ((((2 : Int32) + v1.1) + v2.1) + (0 : Int32), v2.2))
  else (
  some ((((2 : Int32) + v1.1) + v2.1) + (2 : Int32), v2.2))
def f_X0_weightOfCut_0 (F : Nat) : Int32 → Int32 → Int32 → cM → Option (Int32 × cM) := fun x0 x1 x2 M => b_X0_weightOfCut_0 F x0 x1 x2 M
def f_X0_weightOfCut (F : Nat) : Int32 → Int32 → Int32 → cM → Option (Int32 × cM) := fun a0 a1 a2 M => f_X0_weightOfCut_0 F a0 a1 a2 M
-- PatchbayScript$Atom.weightOfEach(II)I
def b_X0_weightOfEach_11 (F : Nat) : Int32 → Int32 → Int32 → cM → Option (Int32 × cM) := fun x1 s0 s1 M =>
  if x1 = 0 then (
  some ((s0 + s1) + (0 : Int32), M))
  else (
  some ((s0 + s1) + (1 : Int32), M))
def f_X0_weightOfEach_11 (F : Nat) : Int32 → Int32 → Int32 → cM → Option (Int32 × cM) := fun x1 s0 s1 M => b_X0_weightOfEach_11 F x1 s0 s1 M
def b_X0_weightOfEach_0 (F : Nat) (t11 : Int32 → Int32 → Int32 → cM → Option (Int32 × cM)) : Int32 → Int32 → cM → Option (Int32 × cM) := fun x0 x1 M =>
  if x0 = 0 then (
  t11 x1 (6 : Int32) (0 : Int32) M)
  else (
  t11 x1 (6 : Int32) (1 : Int32) M)
def f_X0_weightOfEach_0 (F : Nat) : Int32 → Int32 → cM → Option (Int32 × cM) := fun x0 x1 M => b_X0_weightOfEach_0 F (f_X0_weightOfEach_11 F) x0 x1 M
def f_X0_weightOfEach (F : Nat) : Int32 → Int32 → cM → Option (Int32 × cM) := fun a0 a1 M => f_X0_weightOfEach_0 F a0 a1 M
-- PatchbayScript$Atom.weightOf(I)I
def b_X0_weightOf_0 (F : Nat) : Int32 → cM → Option (Int32 × cM) := fun x0 M =>
  (f_X0_kindOf F x0 M).bind fun v1 =>
  if v1.1 = (0 : Int32) then (
  (f_X0_signsOf F x0 v1.2).bind fun v9 =>
  (f_X0_weightOfConst F v9.1 v9.2).bind fun v10 =>
  some (v10.1, v10.2))
  else (
  if v1.1 = (1 : Int32) then (
  (f_X0_partOf F x0 (1 : Int32) v1.2).bind fun v5 =>
  (f_X0_partOf F x0 (2 : Int32) v5.2).bind fun v6 =>
  (f_X0_partOf F x0 (3 : Int32) v6.2).bind fun v7 =>
  (f_X0_weightOfCut F v5.1 v6.1 v7.1 v7.2).bind fun v8 =>
  some (v8.1, v8.2))
  else (
  (f_X0_partOf F x0 (2 : Int32) v1.2).bind fun v2 =>
  (f_X0_partOf F x0 (3 : Int32) v2.2).bind fun v3 =>
  (f_X0_weightOfEach F v2.1 v3.1 v3.2).bind fun v4 =>
  some (v4.1, v4.2)))
def f_X0_weightOf_0 (F : Nat) : Int32 → cM → Option (Int32 × cM) := fun x0 M => b_X0_weightOf_0 F x0 M
def f_X0_weightOf (F : Nat) : Int32 → cM → Option (Int32 × cM) := fun a0 M => f_X0_weightOf_0 F a0 M
-- PatchbayScript$Atom.numberOf(II)I
def b_X0_numberOf_0 (F : Nat) : Int32 → Int32 → cM → Option (Int32 × cM) := fun x0 x1 M =>
  if x1 = 0 then (
  (f_X0_kindOf F x0 M).bind fun v1 =>
  some (v1.1, v1.2))
  else (
  if x1 = (4 : Int32) then (
  (f_X0_weightOf F x0 M).bind fun v2 =>
  some (v2.1, v2.2))
  else (
  (f_X0_kindOf F x0 M).bind fun v3 =>
  if v3.1 = 0 then (
  (f_X0_signOf F x0 (x1 - (1 : Int32)) v3.2).bind fun v4 =>
  some (v4.1, v4.2))
  else (
  (f_X0_partOf F x0 x1 v3.2).bind fun v5 =>
  some (v5.1, v5.2))))
def f_X0_numberOf_0 (F : Nat) : Int32 → Int32 → cM → Option (Int32 × cM) := fun x0 x1 M => b_X0_numberOf_0 F x0 x1 M
def f_X0_numberOf (F : Nat) : Int32 → Int32 → cM → Option (Int32 × cM) := fun a0 a1 M => f_X0_numberOf_0 F a0 a1 M
-- PatchbayScript$Sign.isOf(CI)Z
def b_X7_isOf_17 (F : Nat) : Int32 → Int32 → Int32 → cM → Option (Int32 × cM) := fun x0 x1 s0 M =>
  if x1 = (0 : Int32) then (
  if x0 < (48 : Int32) then (
  some ((0 : Int32), M))
  else (
  if (57 : Int32) < x0 then (
  some ((0 : Int32), M))
  else (
  some ((1 : Int32), M))))
  else (
  if x1 = (1 : Int32) then (
  if s0 = 0 then (
  if x0 < (97 : Int32) then (
  some ((0 : Int32), M))
  else (
  if (122 : Int32) < x0 then (
  some ((0 : Int32), M))
  else (
  some ((1 : Int32), M))))
  else (
  some ((1 : Int32), M)))
  else (
  if x1 = (2 : Int32) then (
  if s0 = 0 ∨ s0 = 1 then some (s0, M) else none)
  else (
  if x0 = (32 : Int32) then (
  some ((0 : Int32), M))
  else (
  some ((1 : Int32), M)))))
def f_X7_isOf_17 (F : Nat) : Int32 → Int32 → Int32 → cM → Option (Int32 × cM) := fun x0 x1 s0 M => b_X7_isOf_17 F x0 x1 s0 M
def b_X7_isOf_0 (F : Nat) (t17 : Int32 → Int32 → Int32 → cM → Option (Int32 × cM)) : Int32 → Int32 → cM → Option (Int32 × cM) := fun x0 x1 M =>
  if x0 < (65 : Int32) then (
  t17 x0 x1 (0 : Int32) M)
  else (
  if (90 : Int32) < x0 then (
  t17 x0 x1 (0 : Int32) M)
  else (
  t17 x0 x1 (1 : Int32) M))
def f_X7_isOf_0 (F : Nat) : Int32 → Int32 → cM → Option (Int32 × cM) := fun x0 x1 M => b_X7_isOf_0 F (f_X7_isOf_17 F) x0 x1 M
def f_X7_isOf (F : Nat) : Int32 → Int32 → cM → Option (Int32 × cM) := fun a0 a1 M => f_X7_isOf_0 F a0 a1 M
-- PatchbayScript$Text.add(C)Z
def b_X10_add_30 (F : Nat) (t30 : Nat → Int32 → Int32 → cM → Option (Int32 × cM)) : Nat → Int32 → Int32 → cM → Option (Int32 × cM) := fun x0 x1 x2 M =>
  if (4 : Int32) ≤ x2 then (
  (fI M x0 8 2).bind fun v1 =>
  (pF M x0 8 2 (.int (v1 + (1 : Int32)))).bind fun M2 =>
  some ((1 : Int32), M2))
  else (
  (f_X7_isOf F x1 x2 M).bind fun v3 =>
  if v3.1 = 0 then (
  t30 x0 x1 (x2 + (1 : Int32)) v3.2)
  else (
  (fR v3.2 x0 8 1).bind fun v4 =>
  (aI 0 v3.2 v4 x2).bind fun v5 =>
  (fI v3.2 x0 8 2).bind fun v6 =>
  (sI 0 v3.2 v4 x2 (v5 ||| ((1 : Int32) <<< (v6 &&& 31)))).bind fun M7 =>
  t30 x0 x1 (x2 + (1 : Int32)) M7))
def f_X10_add_30 (F : Nat) : Nat → Nat → Int32 → Int32 → cM → Option (Int32 × cM) := fun n => Nat.rec (fun _ _ _ _ => none) (fun _ ih x0 x1 x2 M => b_X10_add_30 F (ih) x0 x1 x2 M) n
def b_X10_add_0 (F : Nat) (t30 : Nat → Int32 → Int32 → cM → Option (Int32 × cM)) : Nat → Int32 → cM → Option (Int32 × cM) := fun x0 x1 M =>
  (fI M x0 8 2).bind fun v1 =>
  if v1 < 0 then (
  some ((0 : Int32), M))
  else (
  (fI M x0 8 2).bind fun v2 =>
  if v2 < (20 : Int32) then (
  (fR M x0 8 0).bind fun v3 =>
  (fI M x0 8 2).bind fun v4 =>
  (sI 2 M v3 v4 x1).bind fun M5 =>
  t30 x0 x1 (0 : Int32) M5)
  else (
  some ((0 : Int32), M)))
def f_X10_add_0 (F : Nat) : Nat → Int32 → cM → Option (Int32 × cM) := fun x0 x1 M => b_X10_add_0 F (f_X10_add_30 F F) x0 x1 M
def f_X10_add (F : Nat) : Nat → Int32 → cM → Option (Int32 × cM) := fun a0 a1 M => if isC M a0 8 = true then f_X10_add_0 F a0 a1 M else none
-- PatchbayScript$Atom.makesConst(ILPatchbayScript$Text;)Z
def b_X0_makesConst_7 (F : Nat) (t7 : Int32 → Nat → Int32 → Int32 → cM → Option (Int32 × cM)) : Int32 → Nat → Int32 → Int32 → cM → Option (Int32 × cM) := fun x0 x1 x2 x3 M =>
  if x2 ≤ x3 then (
  some ((1 : Int32), M))
  else (
  (f_X0_signOf F x0 x3 M).bind fun v1 =>
  (f_X10_add F x1 v1.1 v1.2).bind fun v2 =>
  if v2.1 = 0 then (
  some ((0 : Int32), v2.2))
  else (
  t7 x0 x1 x2 (x3 + (1 : Int32)) v2.2))
def f_X0_makesConst_7 (F : Nat) : Nat → Int32 → Nat → Int32 → Int32 → cM → Option (Int32 × cM) := fun n => Nat.rec (fun _ _ _ _ _ => none) (fun _ ih x0 x1 x2 x3 M => b_X0_makesConst_7 F (ih) x0 x1 x2 x3 M) n
def b_X0_makesConst_0 (F : Nat) (t7 : Int32 → Nat → Int32 → Int32 → cM → Option (Int32 × cM)) : Int32 → Nat → cM → Option (Int32 × cM) := fun x0 x1 M =>
  (f_X0_signsOf F x0 M).bind fun v1 =>
  t7 x0 x1 v1.1 (0 : Int32) v1.2
def f_X0_makesConst_0 (F : Nat) : Int32 → Nat → cM → Option (Int32 × cM) := fun x0 x1 M => b_X0_makesConst_0 F (f_X0_makesConst_7 F F) x0 x1 M
def f_X0_makesConst (F : Nat) : Int32 → Nat → cM → Option (Int32 × cM) := fun a0 a1 M => f_X0_makesConst_0 F a0 a1 M
-- PatchbayScript$Text.placesOfRuns(II)I
def b_X10_placesOfRuns_19 (F : Nat) : Int32 → Int32 → cM → Option (Int32 × cM) := fun x2 s0 M =>
  if x2 = (1 : Int32) then (
  some (s0 &&& ((s0 <<< ((1 : Int32) &&& 31)) ^^^ (-1 : Int32)), M))
  else (
  if x2 = (2 : Int32) then (
  some (s0 &&& ((s0 >>> ((1 : Int32) &&& 31)) ^^^ (-1 : Int32)), M))
  else (
  some (s0, M)))
def f_X10_placesOfRuns_19 (F : Nat) : Int32 → Int32 → cM → Option (Int32 × cM) := fun x2 s0 M => b_X10_placesOfRuns_19 F x2 s0 M
def b_X10_placesOfRuns_0 (F : Nat) (t19 : Int32 → Int32 → cM → Option (Int32 × cM)) : Nat → Int32 → Int32 → cM → Option (Int32 × cM) := fun x0 x1 x2 M =>
  if x1 < 0 then (
  t19 x2 (0 : Int32) M)
  else (
  if (4 : Int32) ≤ x1 then (
  t19 x2 (0 : Int32) M)
  else (
  (fR M x0 8 1).bind fun v1 =>
  (aI 0 M v1 x1).bind fun v2 =>
  t19 x2 v2 M))
def f_X10_placesOfRuns_0 (F : Nat) : Nat → Int32 → Int32 → cM → Option (Int32 × cM) := fun x0 x1 x2 M => b_X10_placesOfRuns_0 F (f_X10_placesOfRuns_19 F) x0 x1 x2 M
def f_X10_placesOfRuns (F : Nat) : Nat → Int32 → Int32 → cM → Option (Int32 × cM) := fun a0 a1 a2 M => if isC M a0 8 = true then f_X10_placesOfRuns_0 F a0 a1 a2 M else none
-- PatchbayScript$Text.placeOfRun(II)I
def b_X10_placeOfRun_7 (F : Nat) (t7 : Int32 → Int32 → Int32 → Int32 → Int32 → cM → Option (Int32 × cM)) : Int32 → Int32 → Int32 → Int32 → Int32 → cM → Option (Int32 × cM) := fun x0 x1 x2 x3 x4 M =>
  if (20 : Int32) ≤ x4 then (
  if x1 = (2 : Int32) then (
  some (x2, M))
  else (
  some ((-1 : Int32), M)))
  else (
  if (x0 >>> (x4 &&& 31)) &&& (1 : Int32) = 0 then (
  t7 x0 x1 x2 x3 (x4 + (1 : Int32)) M)
  else (
  if x3 = x1 then (
  if (2 : Int32) ≤ x1 then (
  t7 x0 x1 x4 (x3 + (1 : Int32)) (x4 + (1 : Int32)) M)
  else (
  some (x4, M)))
  else (
  t7 x0 x1 x4 (x3 + (1 : Int32)) (x4 + (1 : Int32)) M)))
def f_X10_placeOfRun_7 (F : Nat) : Nat → Int32 → Int32 → Int32 → Int32 → Int32 → cM → Option (Int32 × cM) := fun n => Nat.rec (fun _ _ _ _ _ _ => none) (fun _ ih x0 x1 x2 x3 x4 M => b_X10_placeOfRun_7 F (ih) x0 x1 x2 x3 x4 M) n
def b_X10_placeOfRun_0 (F : Nat) (t7 : Int32 → Int32 → Int32 → Int32 → Int32 → cM → Option (Int32 × cM)) : Int32 → Int32 → cM → Option (Int32 × cM) := fun x0 x1 M =>
  t7 x0 x1 (-1 : Int32) (0 : Int32) (0 : Int32) M
def f_X10_placeOfRun_0 (F : Nat) : Int32 → Int32 → cM → Option (Int32 × cM) := fun x0 x1 M => b_X10_placeOfRun_0 F (f_X10_placeOfRun_7 F F) x0 x1 M
def f_X10_placeOfRun (F : Nat) : Int32 → Int32 → cM → Option (Int32 × cM) := fun a0 a1 M => f_X10_placeOfRun_0 F a0 a1 M
-- PatchbayScript$Text.placeOfSpot(I)I
def b_X10_placeOfSpot_96 (F : Nat) : Int32 → Int32 → Nat → Int32 → Int32 → cM → Option (Int32 × cM) := fun x1 x3 s0 s1 s2 M =>
  (f_X10_placesOfRuns F s0 s1 s2 M).bind fun v1 =>
  dz (3 : Int32) (
  (f_X10_placeOfRun F v1.1 (x1 - x1 / (3 : Int32) * (3 : Int32)) v1.2).bind fun v2 =>
  if x3 = 0 then (
  some (v2.1, v2.2))
  else (
  if v2.1 = (-1 : Int32) then (
  some (v2.1, v2.2))
  else (
  some (v2.1 + (1 : Int32), v2.2))))
def f_X10_placeOfSpot_96 (F : Nat) : Int32 → Int32 → Nat → Int32 → Int32 → cM → Option (Int32 × cM) := fun x1 x3 s0 s1 s2 M => b_X10_placeOfSpot_96 F x1 x3 s0 s1 s2 M
def b_X10_placeOfSpot_84 (F : Nat) (t96 : Int32 → Int32 → Nat → Int32 → Int32 → cM → Option (Int32 × cM)) : Nat → Int32 → Int32 → Int32 → cM → Option (Int32 × cM) := fun x0 x1 x2 s0 M =>
  if s0 = 0 then (
  t96 x1 s0 x0 x2 (1 : Int32) M)
  else (
  t96 x1 s0 x0 x2 (2 : Int32) M)
def f_X10_placeOfSpot_84 (F : Nat) : Nat → Int32 → Int32 → Int32 → cM → Option (Int32 × cM) := fun x0 x1 x2 s0 M => b_X10_placeOfSpot_84 F (f_X10_placeOfSpot_96 F) x0 x1 x2 s0 M
def b_X10_placeOfSpot_0 (F : Nat) (t84 : Nat → Int32 → Int32 → Int32 → cM → Option (Int32 × cM)) : Nat → Int32 → cM → Option (Int32 × cM) := fun x0 x1 M =>
  if x1 < 0 then (
  some ((-1 : Int32), M))
  else (
  if x1 < (30 : Int32) then (
  if (3 : Int32) ≤ x1 then (
  if (6 : Int32) ≤ x1 then (
  dz (6 : Int32) (
  let v1 : Int32 := (x1 - (6 : Int32)) / (6 : Int32)
  dz (6 : Int32) (
  if (x1 - (6 : Int32)) - (x1 - (6 : Int32)) / (6 : Int32) * (6 : Int32) < (3 : Int32) then (
  t84 x0 x1 v1 (0 : Int32) M)
  else (
  t84 x0 x1 v1 (1 : Int32) M))))
  else (
  (fI M x0 8 2).bind fun v2 =>
  if v2 < x1 - (3 : Int32) then (
  some ((-1 : Int32), M))
  else (
  (fI M x0 8 2).bind fun v3 =>
  some (v3 - (x1 - (3 : Int32)), M))))
  else (
  (fI M x0 8 2).bind fun v4 =>
  if v4 < x1 then (
  some ((-1 : Int32), M))
  else (
  some (x1, M))))
  else (
  some ((-1 : Int32), M)))
def f_X10_placeOfSpot_0 (F : Nat) : Nat → Int32 → cM → Option (Int32 × cM) := fun x0 x1 M => b_X10_placeOfSpot_0 F (f_X10_placeOfSpot_84 F) x0 x1 M
def f_X10_placeOfSpot (F : Nat) : Nat → Int32 → cM → Option (Int32 × cM) := fun a0 a1 M => if isC M a0 8 = true then f_X10_placeOfSpot_0 F a0 a1 M else none
-- PatchbayScript$Sign.turned(CIZ)C
def b_X7_turned_66 (F : Nat) : Int32 → Int32 → cM → Option (Int32 × cM) := fun x0 x4 M =>
  if x4 = 0 then (
  if vp_nar .char x0 = x0 then some (x0, M) else none)
  else (
  if x0 < (65 : Int32) then (
  if vp_nar .char x0 = x0 then some (x0, M) else none)
  else (
  if (90 : Int32) < x0 then (
  if vp_nar .char x0 = x0 then some (x0, M) else none)
  else (
  if vp_nar .char ((((x0 - (65 : Int32)) + (97 : Int32)).toUInt32 % 65536).toInt32) = (((x0 - (65 : Int32)) + (97 : Int32)).toUInt32 % 65536).toInt32 then some ((((x0 - (65 : Int32)) + (97 : Int32)).toUInt32 % 65536).toInt32, M) else none)))
def f_X7_turned_66 (F : Nat) : Int32 → Int32 → cM → Option (Int32 × cM) := fun x0 x4 M => b_X7_turned_66 F x0 x4 M
def b_X7_turned_39 (F : Nat) (t66 : Int32 → Int32 → cM → Option (Int32 × cM)) : Int32 → Int32 → Int32 → cM → Option (Int32 × cM) := fun x0 x3 s0 M =>
  if x3 = 0 then (
  t66 x0 s0 M)
  else (
  if x0 < (97 : Int32) then (
  t66 x0 s0 M)
  else (
  if (122 : Int32) < x0 then (
  t66 x0 s0 M)
  else (
  if vp_nar .char ((((x0 - (97 : Int32)) + (65 : Int32)).toUInt32 % 65536).toInt32) = (((x0 - (97 : Int32)) + (65 : Int32)).toUInt32 % 65536).toInt32 then some ((((x0 - (97 : Int32)) + (65 : Int32)).toUInt32 % 65536).toInt32, M) else none)))
def f_X7_turned_39 (F : Nat) : Int32 → Int32 → Int32 → cM → Option (Int32 × cM) := fun x0 x3 s0 M => b_X7_turned_39 F (f_X7_turned_66 F) x0 x3 s0 M
def b_X7_turned_19 (F : Nat) (t39 : Int32 → Int32 → Int32 → cM → Option (Int32 × cM)) : Int32 → Int32 → Int32 → Int32 → cM → Option (Int32 × cM) := fun x0 x1 x2 s0 M =>
  if x1 = (2 : Int32) then (
  t39 x0 s0 (1 : Int32) M)
  else (
  if x1 = (3 : Int32) then (
  if x2 = 0 then (
  t39 x0 s0 (1 : Int32) M)
  else (
  t39 x0 s0 (0 : Int32) M))
  else (
  t39 x0 s0 (0 : Int32) M))
def f_X7_turned_19 (F : Nat) : Int32 → Int32 → Int32 → Int32 → cM → Option (Int32 × cM) := fun x0 x1 x2 s0 M => b_X7_turned_19 F (f_X7_turned_39 F) x0 x1 x2 s0 M
def b_X7_turned_0 (F : Nat) (t19 : Int32 → Int32 → Int32 → Int32 → cM → Option (Int32 × cM)) : Int32 → Int32 → Int32 → cM → Option (Int32 × cM) := fun x0 x1 x2 M =>
  if x1 = (1 : Int32) then (
  t19 x0 x1 x2 (1 : Int32) M)
  else (
  if x1 = (3 : Int32) then (
  if x2 = 0 then (
  t19 x0 x1 x2 (0 : Int32) M)
  else (
  t19 x0 x1 x2 (1 : Int32) M))
  else (
  t19 x0 x1 x2 (0 : Int32) M))
def f_X7_turned_0 (F : Nat) : Int32 → Int32 → Int32 → cM → Option (Int32 × cM) := fun x0 x1 x2 M => b_X7_turned_0 F (f_X7_turned_19 F) x0 x1 x2 M
def f_X7_turned (F : Nat) : Int32 → Int32 → Int32 → cM → Option (Int32 × cM) := fun a0 a1 a2 M => f_X7_turned_0 F a0 a1 a2 M
-- PatchbayScript$Atom.makesCut(ILPatchbayScript$Text;LPatchbayScript$Text;)Z
def b_X0_makesCut_43 (F : Nat) (t43 : Nat → Nat → Int32 → Int32 → Int32 → Int32 → cM → Option (Int32 × cM)) : Nat → Nat → Int32 → Int32 → Int32 → Int32 → cM → Option (Int32 × cM) := fun x1 x2 x3 x4 x5 x6 M =>
  if x4 ≤ x6 then (
  some ((1 : Int32), M))
  else (
  (f_X10_at F x1 x6 M).bind fun v1 =>
  if x6 = x3 then (
  (f_X7_turned F v1.1 x5 (1 : Int32) v1.2).bind fun v2 =>
  (f_X10_add F x2 v2.1 v2.2).bind fun v3 =>
  if v3.1 = 0 then (
  some ((0 : Int32), v3.2))
  else (
  t43 x1 x2 x3 x4 x5 (x6 + (1 : Int32)) v3.2))
  else (
  (f_X7_turned F v1.1 x5 (0 : Int32) v1.2).bind fun v4 =>
  (f_X10_add F x2 v4.1 v4.2).bind fun v5 =>
  if v5.1 = 0 then (
  some ((0 : Int32), v5.2))
  else (
  t43 x1 x2 x3 x4 x5 (x6 + (1 : Int32)) v5.2)))
def f_X0_makesCut_43 (F : Nat) : Nat → Nat → Nat → Int32 → Int32 → Int32 → Int32 → cM → Option (Int32 × cM) := fun n => Nat.rec (fun _ _ _ _ _ _ _ => none) (fun _ ih x1 x2 x3 x4 x5 x6 M => b_X0_makesCut_43 F (ih) x1 x2 x3 x4 x5 x6 M) n
def b_X0_makesCut_0 (F : Nat) (t43 : Nat → Nat → Int32 → Int32 → Int32 → Int32 → cM → Option (Int32 × cM)) : Int32 → Nat → Nat → cM → Option (Int32 × cM) := fun x0 x1 x2 M =>
  (f_X0_partOf F x0 (1 : Int32) M).bind fun v1 =>
  (f_X10_placeOfSpot F x1 v1.1 v1.2).bind fun v2 =>
  (f_X0_partOf F x0 (2 : Int32) v2.2).bind fun v3 =>
  (f_X10_placeOfSpot F x1 v3.1 v3.2).bind fun v4 =>
  (f_X0_partOf F x0 (3 : Int32) v4.2).bind fun v5 =>
  if v2.1 < 0 then (
  some ((0 : Int32), v5.2))
  else (
  if v2.1 < v4.1 then (
  t43 x1 x2 v2.1 v4.1 v5.1 v2.1 v5.2)
  else (
  some ((0 : Int32), v5.2)))
def f_X0_makesCut_0 (F : Nat) : Int32 → Nat → Nat → cM → Option (Int32 × cM) := fun x0 x1 x2 M => b_X0_makesCut_0 F (f_X0_makesCut_43 F F) x0 x1 x2 M
def f_X0_makesCut (F : Nat) : Int32 → Nat → Nat → cM → Option (Int32 × cM) := fun a0 a1 a2 M => f_X0_makesCut_0 F a0 a1 a2 M
-- PatchbayScript$Sign.markOf(I)C
def b_X7_markOf_0 (F : Nat) : Int32 → cM → Option (Int32 × cM) := fun x0 M =>
  if x0 = (1 : Int32) then (
  some ((32 : Int32), M))
  else (
  if x0 = (2 : Int32) then (
  some ((44 : Int32), M))
  else (
  if x0 = (3 : Int32) then (
  some ((46 : Int32), M))
  else (
  if x0 = (4 : Int32) then (
  some ((45 : Int32), M))
  else (
  some ((47 : Int32), M)))))
def f_X7_markOf_0 (F : Nat) : Int32 → cM → Option (Int32 × cM) := fun x0 M => b_X7_markOf_0 F x0 M
def f_X7_markOf (F : Nat) : Int32 → cM → Option (Int32 × cM) := fun a0 M => f_X7_markOf_0 F a0 M
-- PatchbayScript$Atom.makesEach(ILPatchbayScript$Text;LPatchbayScript$Text;)Z
def b_X0_makesEach_92 (F : Nat) (t45 : Nat → Nat → Int32 → Int32 → Int32 → Int32 → Int32 → cM → Option (Int32 × cM)) : Nat → Nat → Int32 → Int32 → Int32 → Int32 → Int32 → Int32 → cM → Option (Int32 × cM) := fun x1 x2 x3 x4 x5 x6 x7 x8 M =>
  if x3 &&& x8 = 0 then (
  t45 x1 x2 x3 x4 x5 x6 (x7 + (1 : Int32)) M)
  else (
  (f_X10_at F x1 x7 M).bind fun v1 =>
  (f_X10_add F x2 v1.1 v1.2).bind fun v2 =>
  if v2.1 = 0 then (
  some ((0 : Int32), v2.2))
  else (
  t45 x1 x2 x3 x4 x5 x6 (x7 + (1 : Int32)) v2.2))
def f_X0_makesEach_92 (F : Nat) (k45 : Nat → Nat → Int32 → Int32 → Int32 → Int32 → Int32 → cM → Option (Int32 × cM)) : Nat → Nat → Int32 → Int32 → Int32 → Int32 → Int32 → Int32 → cM → Option (Int32 × cM) := fun x1 x2 x3 x4 x5 x6 x7 x8 M => b_X0_makesEach_92 F (k45) x1 x2 x3 x4 x5 x6 x7 x8 M
def b_X0_makesEach_45 (F : Nat) (t92 : Nat → Nat → Int32 → Int32 → Int32 → Int32 → Int32 → Int32 → cM → Option (Int32 × cM)) : Nat → Nat → Int32 → Int32 → Int32 → Int32 → Int32 → cM → Option (Int32 × cM) := fun x1 x2 x3 x4 x5 x6 x7 M =>
  (fI M x1 8 2).bind fun v1 =>
  if v1 ≤ x7 then (
  if x4 = 0 then (
  some ((0 : Int32), M))
  else (
  some ((1 : Int32), M)))
  else (
  let v2 : Int32 := (1 : Int32) <<< (x7 &&& 31)
  if x5 = 0 then (
  t92 x1 x2 x3 x4 x5 x6 x7 v2 M)
  else (
  if (x4 &&& v2) &&& (x6 ^^^ (-1 : Int32)) = 0 then (
  t92 x1 x2 x3 x4 x5 x6 x7 v2 M)
  else (
  (f_X7_markOf F x5 M).bind fun v3 =>
  (f_X10_add F x2 v3.1 v3.2).bind fun v4 =>
  if v4.1 = 0 then (
  some ((0 : Int32), v4.2))
  else (
  t92 x1 x2 x3 x4 x5 x6 x7 v2 v4.2))))
def f_X0_makesEach_45 (F : Nat) : Nat → Nat → Nat → Int32 → Int32 → Int32 → Int32 → Int32 → cM → Option (Int32 × cM) := fun n => Nat.rec (fun _ _ _ _ _ _ _ _ => none) (fun _ ih x1 x2 x3 x4 x5 x6 x7 M => b_X0_makesEach_45 F (f_X0_makesEach_92 F ih) x1 x2 x3 x4 x5 x6 x7 M) n
def b_X0_makesEach_0 (F : Nat) (t45 : Nat → Nat → Int32 → Int32 → Int32 → Int32 → Int32 → cM → Option (Int32 × cM)) : Int32 → Nat → Nat → cM → Option (Int32 × cM) := fun x0 x1 x2 M =>
  (f_X0_partOf F x0 (1 : Int32) M).bind fun v1 =>
  (f_X0_partOf F x0 (2 : Int32) v1.2).bind fun v2 =>
  (f_X10_placesOfRuns F x1 v1.1 v2.1 v2.2).bind fun v3 =>
  (f_X0_partOf F x0 (1 : Int32) v3.2).bind fun v4 =>
  (f_X10_placesOfRuns F x1 v4.1 (1 : Int32) v4.2).bind fun v5 =>
  (f_X0_partOf F x0 (3 : Int32) v5.2).bind fun v6 =>
  t45 x1 x2 v3.1 v5.1 v6.1 (v5.1 &&& (-v5.1)) (0 : Int32) v6.2
def f_X0_makesEach_0 (F : Nat) : Int32 → Nat → Nat → cM → Option (Int32 × cM) := fun x0 x1 x2 M => b_X0_makesEach_0 F (f_X0_makesEach_45 F F) x0 x1 x2 M
def f_X0_makesEach (F : Nat) : Int32 → Nat → Nat → cM → Option (Int32 × cM) := fun a0 a1 a2 M => f_X0_makesEach_0 F a0 a1 a2 M
-- PatchbayScript$Text.set(LPatchbayScript$Text;)V
def b_X10_set_36 (F : Nat) (t36 : Nat → Nat → Int32 → cM → Option (cM)) : Nat → Nat → Int32 → cM → Option (cM) := fun x0 x1 x2 M =>
  if (4 : Int32) ≤ x2 then (
  some M)
  else (
  (fR M x0 8 1).bind fun v1 =>
  (fR M x1 8 1).bind fun v2 =>
  (aI 0 M v2 x2).bind fun v3 =>
  (sI 0 M v1 x2 v3).bind fun M4 =>
  t36 x0 x1 (x2 + (1 : Int32)) M4)
def f_X10_set_36 (F : Nat) : Nat → Nat → Nat → Int32 → cM → Option (cM) := fun n => Nat.rec (fun _ _ _ _ => none) (fun _ ih x0 x1 x2 M => b_X10_set_36 F (ih) x0 x1 x2 M) n
def b_X10_set_10 (F : Nat) (t10 : Nat → Nat → Int32 → cM → Option (cM)) (t36 : Nat → Nat → Int32 → cM → Option (cM)) : Nat → Nat → Int32 → cM → Option (cM) := fun x0 x1 x2 M =>
  if (20 : Int32) ≤ x2 then (
  t36 x0 x1 (0 : Int32) M)
  else (
  (fR M x0 8 0).bind fun v1 =>
  (fR M x1 8 0).bind fun v2 =>
  (aI 2 M v2 x2).bind fun v3 =>
  (sI 2 M v1 x2 v3).bind fun M4 =>
  t10 x0 x1 (x2 + (1 : Int32)) M4)
def f_X10_set_10 (F : Nat) : Nat → Nat → Nat → Int32 → cM → Option (cM) := fun n => Nat.rec (fun _ _ _ _ => none) (fun _ ih x0 x1 x2 M => b_X10_set_10 F (ih) (f_X10_set_36 F F) x0 x1 x2 M) n
def b_X10_set_0 (F : Nat) (t10 : Nat → Nat → Int32 → cM → Option (cM)) : Nat → Nat → cM → Option (cM) := fun x0 x1 M =>
  (fI M x1 8 2).bind fun v1 =>
  (pF M x0 8 2 (.int v1)).bind fun M2 =>
  t10 x0 x1 (0 : Int32) M2
def f_X10_set_0 (F : Nat) : Nat → Nat → cM → Option (cM) := fun x0 x1 M => b_X10_set_0 F (f_X10_set_10 F F) x0 x1 M
def f_X10_set (F : Nat) : Nat → Nat → cM → Option (cM) := fun a0 a1 M => if isC M a0 8 = true then f_X10_set_0 F a0 a1 M else none
-- PatchbayScript$Board.narrowed(ICI)I
def b_X1_narrowed_0 (F : Nat) : Nat → Int32 → Int32 → Int32 → cM → Option (Int32 × cM) := fun x0 x1 x2 x3 M =>
  if x3 < 0 then (
  some ((0 : Int32), M))
  else (
  if (20 : Int32) ≤ x3 then (
  some ((0 : Int32), M))
  else (
  (fR M x0 0 3).bind fun v1 =>
  (aI 0 M v1 (x2 &&& (127 : Int32))).bind fun v2 =>
  some (x1 &&& (v2 >>> (x3 &&& 31)), M)))
def f_X1_narrowed_0 (F : Nat) : Nat → Int32 → Int32 → Int32 → cM → Option (Int32 × cM) := fun x0 x1 x2 x3 M => b_X1_narrowed_0 F x0 x1 x2 x3 M
def f_X1_narrowed (F : Nat) : Nat → Int32 → Int32 → Int32 → cM → Option (Int32 × cM) := fun a0 a1 a2 a3 M => if isC M a0 0 = true then f_X1_narrowed_0 F a0 a1 a2 a3 M else none
-- PatchbayScript$Board.lookAtCuts(I)V
def b_X1_lookAtCuts_57 (F : Nat) (t20 : Nat → Int32 → Int32 → Int32 → Int32 → cM → Option (cM)) : Nat → Int32 → Int32 → Int32 → Int32 → Int32 → Int32 → Int32 → cM → Option (cM) := fun x0 x1 x2 x3 x4 s0 s1 s2 M =>
  (f_X7_turned F s0 s1 s2 M).bind fun v1 =>
  (f_X1_narrowed F x0 x3 v1.1 ((x4 - (1 : Int32)) - x2) v1.2).bind fun v2 =>
  (fR v2.2 x0 0 4).bind fun v3 =>
  (sI 0 v2.2 v3 ((((x1 * (21 : Int32)) + x2) * (21 : Int32)) + x4) v2.1).bind fun M4 =>
  t20 x0 x1 x2 v2.1 (x4 + (1 : Int32)) M4
def f_X1_lookAtCuts_57 (F : Nat) (k2 : Nat → Int32 → Int32 → cM → Option (cM)) (k20 : Nat → Int32 → Int32 → Int32 → Int32 → cM → Option (cM)) : Nat → Int32 → Int32 → Int32 → Int32 → Int32 → Int32 → Int32 → cM → Option (cM) := fun x0 x1 x2 x3 x4 s0 s1 s2 M => b_X1_lookAtCuts_57 F (k20) x0 x1 x2 x3 x4 s0 s1 s2 M
def b_X1_lookAtCuts_20 (F : Nat) (t2 : Nat → Int32 → Int32 → cM → Option (cM)) (t57 : Nat → Int32 → Int32 → Int32 → Int32 → Int32 → Int32 → Int32 → cM → Option (cM)) : Nat → Int32 → Int32 → Int32 → Int32 → cM → Option (cM) := fun x0 x1 x2 x3 x4 M =>
  (fR M x0 0 0).bind fun v1 =>
  (fI M v1 8 2).bind fun v2 =>
  if v2 < x4 then (
  t2 x0 x1 (x2 + (1 : Int32)) M)
  else (
  (fR M x0 0 0).bind fun v3 =>
  (f_X10_at F v3 (x4 - (1 : Int32)) M).bind fun v4 =>
  if x4 - (1 : Int32) = x2 then (
  t57 x0 x1 x2 x3 x4 v4.1 x1 (1 : Int32) v4.2)
  else (
  t57 x0 x1 x2 x3 x4 v4.1 x1 (0 : Int32) v4.2))
def f_X1_lookAtCuts_20 (F : Nat) (k2 : Nat → Int32 → Int32 → cM → Option (cM)) : Nat → Nat → Int32 → Int32 → Int32 → Int32 → cM → Option (cM) := fun n => Nat.rec (fun _ _ _ _ _ _ => none) (fun _ ih x0 x1 x2 x3 x4 M => b_X1_lookAtCuts_20 F (k2) (f_X1_lookAtCuts_57 F k2 ih) x0 x1 x2 x3 x4 M) n
def b_X1_lookAtCuts_2 (F : Nat) (t20 : Nat → Int32 → Int32 → Int32 → Int32 → cM → Option (cM)) : Nat → Int32 → Int32 → cM → Option (cM) := fun x0 x1 x2 M =>
  (fR M x0 0 0).bind fun v1 =>
  (fI M v1 8 2).bind fun v2 =>
  if v2 ≤ x2 then (
  some M)
  else (
  t20 x0 x1 x2 (-1 : Int32) (x2 + (1 : Int32)) M)
def f_X1_lookAtCuts_2 (F : Nat) : Nat → Nat → Int32 → Int32 → cM → Option (cM) := fun n => Nat.rec (fun _ _ _ _ => none) (fun _ ih x0 x1 x2 M => b_X1_lookAtCuts_2 F (f_X1_lookAtCuts_20 F ih F) x0 x1 x2 M) n
def b_X1_lookAtCuts_0 (F : Nat) (t2 : Nat → Int32 → Int32 → cM → Option (cM)) : Nat → Int32 → cM → Option (cM) := fun x0 x1 M =>
  t2 x0 x1 (0 : Int32) M
def f_X1_lookAtCuts_0 (F : Nat) : Nat → Int32 → cM → Option (cM) := fun x0 x1 M => b_X1_lookAtCuts_0 F (f_X1_lookAtCuts_2 F F) x0 x1 M
def f_X1_lookAtCuts (F : Nat) : Nat → Int32 → cM → Option (cM) := fun a0 a1 M => if isC M a0 0 = true then f_X1_lookAtCuts_0 F a0 a1 M else none
-- PatchbayScript$Text.clear()V
def b_X10_clear_7 (F : Nat) (t7 : Nat → Int32 → cM → Option (cM)) : Nat → Int32 → cM → Option (cM) := fun x0 x1 M =>
  if (4 : Int32) ≤ x1 then (
  some M)
  else (
  (fR M x0 8 1).bind fun v1 =>
  (sI 0 M v1 x1 (0 : Int32)).bind fun M2 =>
  t7 x0 (x1 + (1 : Int32)) M2)
def f_X10_clear_7 (F : Nat) : Nat → Nat → Int32 → cM → Option (cM) := fun n => Nat.rec (fun _ _ _ => none) (fun _ ih x0 x1 M => b_X10_clear_7 F (ih) x0 x1 M) n
def b_X10_clear_0 (F : Nat) (t7 : Nat → Int32 → cM → Option (cM)) : Nat → cM → Option (cM) := fun x0 M =>
  (pF M x0 8 2 (.int (0 : Int32))).bind fun M1 =>
  t7 x0 (0 : Int32) M1
def f_X10_clear_0 (F : Nat) : Nat → cM → Option (cM) := fun x0 M => b_X10_clear_0 F (f_X10_clear_7 F F) x0 M
def f_X10_clear (F : Nat) : Nat → cM → Option (cM) := fun a0 M => if isC M a0 8 = true then f_X10_clear_0 F a0 M else none
-- PatchbayScript$Board.lookAtEach(I)V
def b_X1_lookAtEach_70 (F : Nat) : Nat → Int32 → Int32 → cM → Option (cM) := fun x0 x1 x2 M =>
  (fR M x0 0 5).bind fun v1 =>
  (sI 0 M v1 x1 x2).bind fun M2 =>
  (fR M2 x0 0 6).bind fun v3 =>
  (fR M2 x0 0 7).bind fun v4 =>
  (fI M2 v4 8 2).bind fun v5 =>
  (sI 0 M2 v3 x1 v5).bind fun M6 =>
  some M6
def f_X1_lookAtEach_70 (F : Nat) : Nat → Int32 → Int32 → cM → Option (cM) := fun x0 x1 x2 M => b_X1_lookAtEach_70 F x0 x1 x2 M
def b_X1_lookAtEach_34 (F : Nat) (t34 : Nat → Int32 → Int32 → Int32 → cM → Option (cM)) (t70 : Nat → Int32 → Int32 → cM → Option (cM)) : Nat → Int32 → Int32 → Int32 → cM → Option (cM) := fun x0 x1 x2 x3 M =>
  (fR M x0 0 7).bind fun v1 =>
  (fI M v1 8 2).bind fun v2 =>
  if v2 ≤ x3 then (
  t70 x0 x1 x2 M)
  else (
  if x2 = 0 then (
  t70 x0 x1 x2 M)
  else (
  (fR M x0 0 7).bind fun v3 =>
  (f_X10_at F v3 x3 M).bind fun v4 =>
  (f_X1_narrowed F x0 x2 v4.1 x3 v4.2).bind fun v5 =>
  t34 x0 x1 v5.1 (x3 + (1 : Int32)) v5.2))
def f_X1_lookAtEach_34 (F : Nat) : Nat → Nat → Int32 → Int32 → Int32 → cM → Option (cM) := fun n => Nat.rec (fun _ _ _ _ _ => none) (fun _ ih x0 x1 x2 x3 M => b_X1_lookAtEach_34 F (ih) (f_X1_lookAtEach_70 F) x0 x1 x2 x3 M) n
def b_X1_lookAtEach_0 (F : Nat) (t34 : Nat → Int32 → Int32 → Int32 → cM → Option (cM)) : Nat → Int32 → cM → Option (cM) := fun x0 x1 M =>
  (fR M x0 0 7).bind fun v1 =>
  (f_X10_clear F v1 M).bind fun v2 =>
  (fR v2 x0 0 0).bind fun v3 =>
  (fR v2 x0 0 7).bind fun v4 =>
  (f_X0_makesEach F ((3600 : Int32) + x1) v3 v4 v2).bind fun v5 =>
  if v5.1 = 0 then (
  t34 x0 x1 (0 : Int32) (0 : Int32) v5.2)
  else (
  t34 x0 x1 (-1 : Int32) (0 : Int32) v5.2)
def f_X1_lookAtEach_0 (F : Nat) : Nat → Int32 → cM → Option (cM) := fun x0 x1 M => b_X1_lookAtEach_0 F (f_X1_lookAtEach_34 F F) x0 x1 M
def f_X1_lookAtEach (F : Nat) : Nat → Int32 → cM → Option (cM) := fun a0 a1 M => if isC M a0 0 = true then f_X1_lookAtEach_0 F a0 a1 M else none
-- PatchbayScript$Board.lookAt(LPatchbayScript$Text;LPatchbayScript$Text;)V
def b_X1_lookAt_127 (F : Nat) (t127 : Nat → Int32 → cM → Option (cM)) : Nat → Int32 → cM → Option (cM) := fun x0 x3 M =>
  if (72 : Int32) ≤ x3 then (
  some M)
  else (
  (f_X1_lookAtEach F x0 x3 M).bind fun v1 =>
  t127 x0 (x3 + (1 : Int32)) v1)
def f_X1_lookAt_127 (F : Nat) : Nat → Nat → Int32 → cM → Option (cM) := fun n => Nat.rec (fun _ _ _ => none) (fun _ ih x0 x3 M => b_X1_lookAt_127 F (ih) x0 x3 M) n
def b_X1_lookAt_109 (F : Nat) (t109 : Nat → Int32 → cM → Option (cM)) (t127 : Nat → Int32 → cM → Option (cM)) : Nat → Int32 → cM → Option (cM) := fun x0 x3 M =>
  if (4 : Int32) ≤ x3 then (
  t127 x0 (0 : Int32) M)
  else (
  (f_X1_lookAtCuts F x0 x3 M).bind fun v1 =>
  t109 x0 (x3 + (1 : Int32)) v1)
def f_X1_lookAt_109 (F : Nat) : Nat → Nat → Int32 → cM → Option (cM) := fun n => Nat.rec (fun _ _ _ => none) (fun _ ih x0 x3 M => b_X1_lookAt_109 F (ih) (f_X1_lookAt_127 F F) x0 x3 M) n
def b_X1_lookAt_68 (F : Nat) (t68 : Nat → Int32 → cM → Option (cM)) (t109 : Nat → Int32 → cM → Option (cM)) : Nat → Int32 → cM → Option (cM) := fun x0 x3 M =>
  (fR M x0 0 1).bind fun v1 =>
  (fI M v1 8 2).bind fun v2 =>
  if v2 ≤ x3 then (
  t109 x0 (0 : Int32) M)
  else (
  (fR M x0 0 3).bind fun v3 =>
  (fR M x0 0 1).bind fun v4 =>
  (f_X10_at F v4 x3 M).bind fun v5 =>
  (aI 0 v5.2 v3 (v5.1 &&& (127 : Int32))).bind fun v6 =>
  (sI 0 v5.2 v3 (v5.1 &&& (127 : Int32)) (v6 ||| ((1 : Int32) <<< (x3 &&& 31)))).bind fun M7 =>
  t68 x0 (x3 + (1 : Int32)) M7)
def f_X1_lookAt_68 (F : Nat) : Nat → Nat → Int32 → cM → Option (cM) := fun n => Nat.rec (fun _ _ _ => none) (fun _ ih x0 x3 M => b_X1_lookAt_68 F (ih) (f_X1_lookAt_109 F F) x0 x3 M) n
def b_X1_lookAt_46 (F : Nat) (t46 : Nat → Int32 → cM → Option (cM)) (t68 : Nat → Int32 → cM → Option (cM)) : Nat → Int32 → cM → Option (cM) := fun x0 x3 M =>
  if (128 : Int32) ≤ x3 then (
  t68 x0 (0 : Int32) M)
  else (
  (fR M x0 0 3).bind fun v1 =>
  (sI 0 M v1 x3 (0 : Int32)).bind fun M2 =>
  t46 x0 (x3 + (1 : Int32)) M2)
def f_X1_lookAt_46 (F : Nat) : Nat → Nat → Int32 → cM → Option (cM) := fun n => Nat.rec (fun _ _ _ => none) (fun _ ih x0 x3 M => b_X1_lookAt_46 F (ih) (f_X1_lookAt_68 F F) x0 x3 M) n
def b_X1_lookAt_18 (F : Nat) (t18 : Nat → Int32 → cM → Option (cM)) (t46 : Nat → Int32 → cM → Option (cM)) : Nat → Int32 → cM → Option (cM) := fun x0 x3 M =>
  if (30 : Int32) ≤ x3 then (
  t46 x0 (0 : Int32) M)
  else (
  (fR M x0 0 2).bind fun v1 =>
  (fR M x0 0 0).bind fun v2 =>
  (f_X10_placeOfSpot F v2 x3 M).bind fun v3 =>
  (sI 0 v3.2 v1 x3 v3.1).bind fun M4 =>
  t18 x0 (x3 + (1 : Int32)) M4)
def f_X1_lookAt_18 (F : Nat) : Nat → Nat → Int32 → cM → Option (cM) := fun n => Nat.rec (fun _ _ _ => none) (fun _ ih x0 x3 M => b_X1_lookAt_18 F (ih) (f_X1_lookAt_46 F F) x0 x3 M) n
def b_X1_lookAt_0 (F : Nat) (t18 : Nat → Int32 → cM → Option (cM)) : Nat → Nat → Nat → cM → Option (cM) := fun x0 x1 x2 M =>
  (fR M x0 0 0).bind fun v1 =>
  (f_X10_set F v1 x1 M).bind fun v2 =>
  (fR v2 x0 0 1).bind fun v3 =>
  (f_X10_set F v3 x2 v2).bind fun v4 =>
  t18 x0 (0 : Int32) v4
def f_X1_lookAt_0 (F : Nat) : Nat → Nat → Nat → cM → Option (cM) := fun x0 x1 x2 M => b_X1_lookAt_0 F (f_X1_lookAt_18 F F) x0 x1 x2 M
def f_X1_lookAt (F : Nat) : Nat → Nat → Nat → cM → Option (cM) := fun a0 a1 a2 M => if isC M a0 0 = true then f_X1_lookAt_0 F a0 a1 a2 M else none
-- PatchbayScript$Board.sharedFrom(LPatchbayScript$Text;II)I
def b_X1_sharedFrom_6 (F : Nat) (t6 : Nat → Nat → Int32 → Int32 → Int32 → Int32 → cM → Option (Int32 × cM)) : Nat → Nat → Int32 → Int32 → Int32 → Int32 → cM → Option (Int32 × cM) := fun x0 x1 x2 x3 x4 x5 M =>
  if x3 ≤ x5 then (
  some (x3, M))
  else (
  (f_X10_at F x1 (x2 + x5) M).bind fun v1 =>
  (f_X1_narrowed F x0 x4 v1.1 x5 v1.2).bind fun v2 =>
  if v2.1 = 0 then (
  some (x5, v2.2))
  else (
  t6 x0 x1 x2 x3 v2.1 (x5 + (1 : Int32)) v2.2))
def f_X1_sharedFrom_6 (F : Nat) : Nat → Nat → Nat → Int32 → Int32 → Int32 → Int32 → cM → Option (Int32 × cM) := fun n => Nat.rec (fun _ _ _ _ _ _ _ => none) (fun _ ih x0 x1 x2 x3 x4 x5 M => b_X1_sharedFrom_6 F (ih) x0 x1 x2 x3 x4 x5 M) n
def b_X1_sharedFrom_0 (F : Nat) (t6 : Nat → Nat → Int32 → Int32 → Int32 → Int32 → cM → Option (Int32 × cM)) : Nat → Nat → Int32 → Int32 → cM → Option (Int32 × cM) := fun x0 x1 x2 x3 M =>
  t6 x0 x1 x2 x3 (-1 : Int32) (0 : Int32) M
def f_X1_sharedFrom_0 (F : Nat) : Nat → Nat → Int32 → Int32 → cM → Option (Int32 × cM) := fun x0 x1 x2 x3 M => b_X1_sharedFrom_0 F (f_X1_sharedFrom_6 F F) x0 x1 x2 x3 M
def f_X1_sharedFrom (F : Nat) : Nat → Nat → Int32 → Int32 → cM → Option (Int32 × cM) := fun a0 a1 a2 a3 M => if isC M a0 0 = true then f_X1_sharedFrom_0 F a0 a1 a2 a3 M else none
-- PatchbayScript$Board.hasCut(II)Z
def b_X1_hasCut_0 (F : Nat) : Nat → Int32 → Int32 → cM → Option (Int32 × cM) := fun x0 x1 x2 M =>
  (fR M x0 0 2).bind fun v1 =>
  (aI 0 M v1 x1).bind fun v2 =>
  if v2 < 0 then (
  some ((0 : Int32), M))
  else (
  (fR M x0 0 2).bind fun v3 =>
  (aI 0 M v3 x1).bind fun v4 =>
  (fR M x0 0 2).bind fun v5 =>
  (aI 0 M v5 x2).bind fun v6 =>
  if v6 ≤ v4 then (
  some ((0 : Int32), M))
  else (
  some ((1 : Int32), M)))
def f_X1_hasCut_0 (F : Nat) : Nat → Int32 → Int32 → cM → Option (Int32 × cM) := fun x0 x1 x2 M => b_X1_hasCut_0 F x0 x1 x2 M
def f_X1_hasCut (F : Nat) : Nat → Int32 → Int32 → cM → Option (Int32 × cM) := fun a0 a1 a2 M => if isC M a0 0 = true then f_X1_hasCut_0 F a0 a1 a2 M else none
-- PatchbayScript$Board.placesOfCut(III)I
def b_X1_placesOfCut_0 (F : Nat) : Nat → Int32 → Int32 → Int32 → cM → Option (Int32 × cM) := fun x0 x1 x2 x3 M =>
  (f_X1_hasCut F x0 x1 x2 M).bind fun v1 =>
  if v1.1 = 0 then (
  some ((0 : Int32), v1.2))
  else (
  (fR v1.2 x0 0 4).bind fun v2 =>
  (fR v1.2 x0 0 2).bind fun v3 =>
  (aI 0 v1.2 v3 x1).bind fun v4 =>
  (fR v1.2 x0 0 2).bind fun v5 =>
  (aI 0 v1.2 v5 x2).bind fun v6 =>
  (aI 0 v1.2 v2 ((((x3 * (21 : Int32)) + v4) * (21 : Int32)) + v6)).bind fun v7 =>
  some (v7, v1.2))
def f_X1_placesOfCut_0 (F : Nat) : Nat → Int32 → Int32 → Int32 → cM → Option (Int32 × cM) := fun x0 x1 x2 x3 M => b_X1_placesOfCut_0 F x0 x1 x2 x3 M
def f_X1_placesOfCut (F : Nat) : Nat → Int32 → Int32 → Int32 → cM → Option (Int32 × cM) := fun a0 a1 a2 a3 M => if isC M a0 0 = true then f_X1_placesOfCut_0 F a0 a1 a2 a3 M else none
-- PatchbayScript$Board.sizeOfCut(II)I
def b_X1_sizeOfCut_0 (F : Nat) : Nat → Int32 → Int32 → cM → Option (Int32 × cM) := fun x0 x1 x2 M =>
  (fR M x0 0 2).bind fun v1 =>
  (aI 0 M v1 x2).bind fun v2 =>
  (fR M x0 0 2).bind fun v3 =>
  (aI 0 M v3 x1).bind fun v4 =>
  some (v2 - v4, M)
def f_X1_sizeOfCut_0 (F : Nat) : Nat → Int32 → Int32 → cM → Option (Int32 × cM) := fun x0 x1 x2 M => b_X1_sizeOfCut_0 F x0 x1 x2 M
def f_X1_sizeOfCut (F : Nat) : Nat → Int32 → Int32 → cM → Option (Int32 × cM) := fun a0 a1 a2 M => if isC M a0 0 = true then f_X1_sizeOfCut_0 F a0 a1 a2 M else none
-- PatchbayScript$Board.placesOfEach(I)I
def b_X1_placesOfEach_0 (F : Nat) : Nat → Int32 → cM → Option (Int32 × cM) := fun x0 x1 M =>
  if x1 < 0 then (
  some ((0 : Int32), M))
  else (
  if (72 : Int32) ≤ x1 then (
  some ((0 : Int32), M))
  else (
  (fR M x0 0 5).bind fun v1 =>
  (aI 0 M v1 x1).bind fun v2 =>
  some (v2, M)))
def f_X1_placesOfEach_0 (F : Nat) : Nat → Int32 → cM → Option (Int32 × cM) := fun x0 x1 M => b_X1_placesOfEach_0 F x0 x1 M
def f_X1_placesOfEach (F : Nat) : Nat → Int32 → cM → Option (Int32 × cM) := fun a0 a1 M => if isC M a0 0 = true then f_X1_placesOfEach_0 F a0 a1 M else none
-- PatchbayScript$Board.sizeOfEach(I)I
def b_X1_sizeOfEach_0 (F : Nat) : Nat → Int32 → cM → Option (Int32 × cM) := fun x0 x1 M =>
  if x1 < 0 then (
  some ((0 : Int32), M))
  else (
  if (72 : Int32) ≤ x1 then (
  some ((0 : Int32), M))
  else (
  (fR M x0 0 6).bind fun v1 =>
  (aI 0 M v1 x1).bind fun v2 =>
  some (v2, M)))
def f_X1_sizeOfEach_0 (F : Nat) : Nat → Int32 → cM → Option (Int32 × cM) := fun x0 x1 M => b_X1_sizeOfEach_0 F x0 x1 M
def f_X1_sizeOfEach (F : Nat) : Nat → Int32 → cM → Option (Int32 × cM) := fun a0 a1 M => if isC M a0 0 = true then f_X1_sizeOfEach_0 F a0 a1 M else none
-- PatchbayScript$Finder.lookAt(LPatchbayScript$Task;)V
def b_X2_lookAt_90 (F : Nat) (t90 : Nat → Nat → Int32 → cM → Option (cM)) : Nat → Nat → Int32 → cM → Option (cM) := fun x0 x1 x2 M =>
  if (4 : Int32) ≤ x2 then (
  some M)
  else (
  (fR M x0 1 5).bind fun v1 =>
  (fR M x1 7 7).bind fun v2 =>
  (aI 0 M v2 x2).bind fun v3 =>
  (sI 0 M v1 x2 v3).bind fun M4 =>
  (fI M4 x0 1 7).bind fun v5 =>
  (fR M4 x0 1 5).bind fun v6 =>
  (aI 0 M4 v6 x2).bind fun v7 =>
  if v7 = (-1 : Int32) then (
  if v5 ||| (0 : Int32) = 0 ∨ v5 ||| (0 : Int32) = 1 then (
  (pF M4 x0 1 7 (.int (v5 ||| (0 : Int32)))).bind fun M8 =>
  t90 x0 x1 (x2 + (1 : Int32)) M8)
  else none)
  else (
  if v5 ||| (1 : Int32) = 0 ∨ v5 ||| (1 : Int32) = 1 then (
  (pF M4 x0 1 7 (.int (v5 ||| (1 : Int32)))).bind fun M9 =>
  t90 x0 x1 (x2 + (1 : Int32)) M9)
  else none))
def f_X2_lookAt_90 (F : Nat) : Nat → Nat → Nat → Int32 → cM → Option (cM) := fun n => Nat.rec (fun _ _ _ _ => none) (fun _ ih x0 x1 x2 M => b_X2_lookAt_90 F (ih) x0 x1 x2 M) n
def b_X2_lookAt_18 (F : Nat) (t18 : Nat → Nat → cM → Option (cM)) (t90 : Nat → Nat → Int32 → cM → Option (cM)) : Nat → Nat → cM → Option (cM) := fun x0 x1 M =>
  (fI M x0 1 4).bind fun v1 =>
  (fI M x1 7 3).bind fun v2 =>
  if v2 ≤ v1 then (
  (pF M x0 1 7 (.int (0 : Int32))).bind fun M3 =>
  t90 x0 x1 (0 : Int32) M3)
  else (
  (fI M x0 1 4).bind fun v4 =>
  if (4 : Int32) ≤ v4 then (
  (pF M x0 1 7 (.int (0 : Int32))).bind fun M5 =>
  t90 x0 x1 (0 : Int32) M5)
  else (
  (fR M x0 1 2).bind fun v6 =>
  (fR M v6 6 0).bind fun v7 =>
  (fI M x0 1 4).bind fun v8 =>
  (aR M v7 v8).bind fun v9 =>
  (fR M x1 7 0).bind fun v10 =>
  (fI M x0 1 4).bind fun v11 =>
  (aR M v10 v11).bind fun v12 =>
  (fR M x1 7 1).bind fun v13 =>
  (fI M x0 1 4).bind fun v14 =>
  (aR M v13 v14).bind fun v15 =>
  (f_X1_lookAt F v9 v12 v15 M).bind fun v16 =>
  (fI v16 x0 1 4).bind fun v17 =>
  (pF v16 x0 1 4 (.int (v17 + (1 : Int32)))).bind fun M18 =>
  t18 x0 x1 M18))
def f_X2_lookAt_18 (F : Nat) : Nat → Nat → Nat → cM → Option (cM) := fun n => Nat.rec (fun _ _ _ => none) (fun _ ih x0 x1 M => b_X2_lookAt_18 F (ih) (f_X2_lookAt_90 F F) x0 x1 M) n
def b_X2_lookAt_0 (F : Nat) (t18 : Nat → Nat → cM → Option (cM)) : Nat → Nat → cM → Option (cM) := fun x0 x1 M =>
  (fO M x0 1 3).bind fun v1 => oc v1 (
  (pF M x0 1 3 (.ref x1)).bind fun M3 =>
  (pF M3 x0 1 4 (.int (0 : Int32))).bind fun M4 =>
  t18 x0 x1 M4) (fun v2 =>
  if v2 = x1 then (
  t18 x0 x1 M)
  else (
  (pF M x0 1 3 (.ref x1)).bind fun M5 =>
  (pF M5 x0 1 4 (.int (0 : Int32))).bind fun M6 =>
  t18 x0 x1 M6))
def f_X2_lookAt_0 (F : Nat) : Nat → Nat → cM → Option (cM) := fun x0 x1 M => b_X2_lookAt_0 F (f_X2_lookAt_18 F F) x0 x1 M
def f_X2_lookAt (F : Nat) : Nat → Nat → cM → Option (cM) := fun a0 a1 M => if isC M a0 1 = true then f_X2_lookAt_0 F a0 a1 M else none
-- PatchbayScript$Stock.isLike(I)Z
def b_X8_isLike_2 (F : Nat) (t2 : Nat → Int32 → Int32 → cM → Option (Int32 × cM)) : Nat → Int32 → Int32 → cM → Option (Int32 × cM) := fun x0 x1 x2 M =>
  (fI M x0 6 2).bind fun v1 =>
  if v1 ≤ x2 then (
  some ((1 : Int32), M))
  else (
  (fI M x0 6 7).bind fun v2 =>
  let v3 : Int32 := (v2 * (4 : Int32)) + x2
  let v4 : Int32 := (x1 * (4 : Int32)) + x2
  (fR M x0 6 6).bind fun v5 =>
  (aI 0 M v5 v3).bind fun v6 =>
  (fR M x0 6 6).bind fun v7 =>
  (aI 0 M v7 v4).bind fun v8 =>
  if v6 = v8 then (
  (fR M x0 6 5).bind fun v9 =>
  (aI 0 M v9 v3).bind fun v10 =>
  (fR M x0 6 5).bind fun v11 =>
  (aI 0 M v11 v4).bind fun v12 =>
  if v10 = v12 then (
  t2 x0 x1 (x2 + (1 : Int32)) M)
  else (
  some ((0 : Int32), M)))
  else (
  some ((0 : Int32), M)))
def f_X8_isLike_2 (F : Nat) : Nat → Nat → Int32 → Int32 → cM → Option (Int32 × cM) := fun n => Nat.rec (fun _ _ _ _ => none) (fun _ ih x0 x1 x2 M => b_X8_isLike_2 F (ih) x0 x1 x2 M) n
def b_X8_isLike_0 (F : Nat) (t2 : Nat → Int32 → Int32 → cM → Option (Int32 × cM)) : Nat → Int32 → cM → Option (Int32 × cM) := fun x0 x1 M =>
  t2 x0 x1 (0 : Int32) M
def f_X8_isLike_0 (F : Nat) : Nat → Int32 → cM → Option (Int32 × cM) := fun x0 x1 M => b_X8_isLike_0 F (f_X8_isLike_2 F F) x0 x1 M
def f_X8_isLike (F : Nat) : Nat → Int32 → cM → Option (Int32 × cM) := fun a0 a1 M => if isC M a0 6 = true then f_X8_isLike_0 F a0 a1 M else none
-- PatchbayScript$Stock.addAtom(II)V
def b_X8_addAtom_154 (F : Nat) : Nat → Int32 → Int32 → cM → Option (cM) := fun x0 x2 x4 M =>
  (fR M x0 6 10).bind fun v1 =>
  (aI 0 M v1 x4).bind fun v2 =>
  (sI 0 M v1 x4 (v2 ||| ((1 : Int32) <<< ((x2 - (4 : Int32)) &&& 31)))).bind fun M3 =>
  (fI M3 x0 6 7).bind fun v4 =>
  (pF M3 x0 6 7 (.int (v4 + (1 : Int32)))).bind fun M5 =>
  some M5
def f_X8_addAtom_154 (F : Nat) : Nat → Int32 → Int32 → cM → Option (cM) := fun x0 x2 x4 M => b_X8_addAtom_154 F x0 x2 x4 M
def b_X8_addAtom_92 (F : Nat) (t154 : Nat → Int32 → Int32 → cM → Option (cM)) : Nat → Int32 → Int32 → Int32 → cM → Option (cM) := fun x0 x2 x3 x4 M =>
  if x4 = (-1 : Int32) then (
  (fI M x0 6 11).bind fun v1 =>
  (fI M x0 6 11).bind fun v2 =>
  (pF M x0 6 11 (.int (v2 + (1 : Int32)))).bind fun M3 =>
  (fR M3 x0 6 9).bind fun v4 =>
  (fI M3 x0 6 7).bind fun v5 =>
  (sI 0 M3 v4 v1 v5).bind fun M6 =>
  (fR M6 x0 6 10).bind fun v7 =>
  (sI 0 M6 v7 v1 (0 : Int32)).bind fun M8 =>
  (fR M8 x0 6 13).bind fun v9 =>
  (fR M8 x0 6 12).bind fun v10 =>
  (aI 0 M8 v10 x3).bind fun v11 =>
  (sI 0 M8 v9 v1 v11).bind fun M12 =>
  (fR M12 x0 6 12).bind fun v13 =>
  (sI 0 M12 v13 x3 v1).bind fun M14 =>
  t154 x0 x2 v1 M14)
  else (
  t154 x0 x2 x4 M)
def f_X8_addAtom_92 (F : Nat) : Nat → Int32 → Int32 → Int32 → cM → Option (cM) := fun x0 x2 x3 x4 M => b_X8_addAtom_92 F (f_X8_addAtom_154 F) x0 x2 x3 x4 M
def b_X8_addAtom_48 (F : Nat) (t48 : Nat → Int32 → Int32 → Int32 → Int32 → cM → Option (cM)) (t92 : Nat → Int32 → Int32 → Int32 → cM → Option (cM)) : Nat → Int32 → Int32 → Int32 → Int32 → cM → Option (cM) := fun x0 x2 x3 x4 x5 M =>
  (fI M x0 6 11).bind fun v1 =>
  if v1 ≤ x5 then (
  t92 x0 x2 x3 x4 M)
  else (
  if x4 = (-1 : Int32) then (
  t92 x0 x2 x3 x4 M)
  else (
  (fR M x0 6 9).bind fun v2 =>
  (aI 0 M v2 x4).bind fun v3 =>
  (f_X8_isLike F x0 v3 M).bind fun v4 =>
  if v4.1 = 0 then (
  (fR v4.2 x0 6 13).bind fun v5 =>
  (aI 0 v4.2 v5 x4).bind fun v6 =>
  t48 x0 x2 x3 v6 (x5 + (1 : Int32)) v4.2)
  else (
  t92 x0 x2 x3 x4 v4.2)))
def f_X8_addAtom_48 (F : Nat) : Nat → Nat → Int32 → Int32 → Int32 → Int32 → cM → Option (cM) := fun n => Nat.rec (fun _ _ _ _ _ _ => none) (fun _ ih x0 x2 x3 x4 x5 M => b_X8_addAtom_48 F (ih) (f_X8_addAtom_92 F) x0 x2 x3 x4 x5 M) n
def b_X8_addAtom_0 (F : Nat) (t48 : Nat → Int32 → Int32 → Int32 → Int32 → cM → Option (cM)) : Nat → Int32 → Int32 → cM → Option (cM) := fun x0 x1 x2 M =>
  (fR M x0 6 3).bind fun v1 =>
  (fI M x0 6 7).bind fun v2 =>
  (sI 0 M v1 v2 x1).bind fun M3 =>
  (fR M3 x0 6 4).bind fun v4 =>
  (fI M3 x0 6 7).bind fun v5 =>
  (sI 0 M3 v4 v5 x2).bind fun M6 =>
  (fR M6 x0 6 6).bind fun v7 =>
  (fI M6 x0 6 7).bind fun v8 =>
  (aI 0 M6 v7 (v8 * (4 : Int32))).bind fun v9 =>
  let v10 : Int32 := mnI v9 (20 : Int32)
  (fR M6 x0 6 12).bind fun v11 =>
  (aI 0 M6 v11 v10).bind fun v12 =>
  t48 x0 x2 v10 v12 (0 : Int32) M6
def f_X8_addAtom_0 (F : Nat) : Nat → Int32 → Int32 → cM → Option (cM) := fun x0 x1 x2 M => b_X8_addAtom_0 F (f_X8_addAtom_48 F F) x0 x1 x2 M
def f_X8_addAtom (F : Nat) : Nat → Int32 → Int32 → cM → Option (cM) := fun a0 a1 a2 M => if isC M a0 6 = true then f_X8_addAtom_0 F a0 a1 a2 M else none
-- PatchbayScript$Stock.gatherCuts(II)V
def b_X8_gatherCuts_143 (F : Nat) (t33 : Nat → Int32 → Int32 → Int32 → cM → Option (cM)) : Nat → Int32 → Int32 → Int32 → Int32 → cM → Option (cM) := fun x0 x1 x2 x3 x4 M =>
  if x4 = 0 then (
  t33 x0 x1 x2 (x3 + (1 : Int32)) M)
  else (
  (f_X0_cut F x1 x2 x3 M).bind fun v1 =>
  (f_X0_weightOfCut F x1 x2 x3 v1.2).bind fun v2 =>
  (f_X8_addAtom F x0 v1.1 v2.1 v2.2).bind fun v3 =>
  t33 x0 x1 x2 (x3 + (1 : Int32)) v3)
def f_X8_gatherCuts_143 (F : Nat) (k33 : Nat → Int32 → Int32 → Int32 → cM → Option (cM)) : Nat → Int32 → Int32 → Int32 → Int32 → cM → Option (cM) := fun x0 x1 x2 x3 x4 M => b_X8_gatherCuts_143 F (k33) x0 x1 x2 x3 x4 M
def b_X8_gatherCuts_99 (F : Nat) (t54 : Nat → Int32 → Int32 → Int32 → Int32 → Int32 → cM → Option (cM)) : Nat → Int32 → Int32 → Int32 → Int32 → Int32 → cM → Option (cM) := fun x0 x1 x2 x3 x5 x6 M =>
  (fR M x0 6 6).bind fun v1 =>
  (fI M x0 6 7).bind fun v2 =>
  (fR M x0 6 1).bind fun v3 =>
  (aR M v3 x5).bind fun v4 =>
  (f_X1_sizeOfCut F v4 x1 x2 M).bind fun v5 =>
  (sI 0 v5.2 v1 ((v2 * (4 : Int32)) + x5) v5.1).bind fun M6 =>
  if x6 = 0 then (
  t54 x0 x1 x2 x3 (0 : Int32) (x5 + (1 : Int32)) M6)
  else (
  t54 x0 x1 x2 x3 (1 : Int32) (x5 + (1 : Int32)) M6)
def f_X8_gatherCuts_99 (F : Nat) (k33 : Nat → Int32 → Int32 → Int32 → cM → Option (cM)) (k54 : Nat → Int32 → Int32 → Int32 → Int32 → Int32 → cM → Option (cM)) : Nat → Int32 → Int32 → Int32 → Int32 → Int32 → cM → Option (cM) := fun x0 x1 x2 x3 x5 x6 M => b_X8_gatherCuts_99 F (k54) x0 x1 x2 x3 x5 x6 M
def b_X8_gatherCuts_54 (F : Nat) (t99 : Nat → Int32 → Int32 → Int32 → Int32 → Int32 → cM → Option (cM)) (t143 : Nat → Int32 → Int32 → Int32 → Int32 → cM → Option (cM)) : Nat → Int32 → Int32 → Int32 → Int32 → Int32 → cM → Option (cM) := fun x0 x1 x2 x3 x4 x5 M =>
  (fI M x0 6 2).bind fun v1 =>
  if v1 ≤ x5 then (
  t143 x0 x1 x2 x3 x4 M)
  else (
  if x4 = 0 then (
  t143 x0 x1 x2 x3 x4 M)
  else (
  (fR M x0 6 1).bind fun v2 =>
  (aR M v2 x5).bind fun v3 =>
  (f_X1_placesOfCut F v3 x1 x2 x3 M).bind fun v4 =>
  (fR v4.2 x0 6 5).bind fun v5 =>
  (fI v4.2 x0 6 7).bind fun v6 =>
  (sI 0 v4.2 v5 ((v6 * (4 : Int32)) + x5) v4.1).bind fun M7 =>
  t99 x0 x1 x2 x3 x5 v4.1 M7))
def f_X8_gatherCuts_54 (F : Nat) (k33 : Nat → Int32 → Int32 → Int32 → cM → Option (cM)) : Nat → Nat → Int32 → Int32 → Int32 → Int32 → Int32 → cM → Option (cM) := fun n => Nat.rec (fun _ _ _ _ _ _ _ => none) (fun _ ih x0 x1 x2 x3 x4 x5 M => b_X8_gatherCuts_54 F (f_X8_gatherCuts_99 F k33 ih) (f_X8_gatherCuts_143 F k33) x0 x1 x2 x3 x4 x5 M) n
def b_X8_gatherCuts_33 (F : Nat) (t54 : Nat → Int32 → Int32 → Int32 → Int32 → Int32 → cM → Option (cM)) : Nat → Int32 → Int32 → Int32 → cM → Option (cM) := fun x0 x1 x2 x3 M =>
  if (4 : Int32) ≤ x3 then (
  some M)
  else (
  (fI M x0 6 7).bind fun v1 =>
  if (1812 : Int32) ≤ v1 then (
  some M)
  else (
  t54 x0 x1 x2 x3 (1 : Int32) (0 : Int32) M))
def f_X8_gatherCuts_33 (F : Nat) : Nat → Nat → Int32 → Int32 → Int32 → cM → Option (cM) := fun n => Nat.rec (fun _ _ _ _ _ => none) (fun _ ih x0 x1 x2 x3 M => b_X8_gatherCuts_33 F (f_X8_gatherCuts_54 F ih F) x0 x1 x2 x3 M) n
def b_X8_gatherCuts_2 (F : Nat) (t2 : Nat → Int32 → Int32 → Int32 → cM → Option (cM)) (t33 : Nat → Int32 → Int32 → Int32 → cM → Option (cM)) : Nat → Int32 → Int32 → Int32 → cM → Option (cM) := fun x0 x1 x2 x3 M =>
  (fI M x0 6 2).bind fun v1 =>
  if v1 ≤ x3 then (
  t33 x0 x1 x2 (0 : Int32) M)
  else (
  (fR M x0 6 1).bind fun v2 =>
  (aR M v2 x3).bind fun v3 =>
  (f_X1_hasCut F v3 x1 x2 M).bind fun v4 =>
  if v4.1 = 0 then (
  some v4.2)
  else (
  t2 x0 x1 x2 (x3 + (1 : Int32)) v4.2))
def f_X8_gatherCuts_2 (F : Nat) : Nat → Nat → Int32 → Int32 → Int32 → cM → Option (cM) := fun n => Nat.rec (fun _ _ _ _ _ => none) (fun _ ih x0 x1 x2 x3 M => b_X8_gatherCuts_2 F (ih) (f_X8_gatherCuts_33 F F) x0 x1 x2 x3 M) n
def b_X8_gatherCuts_0 (F : Nat) (t2 : Nat → Int32 → Int32 → Int32 → cM → Option (cM)) : Nat → Int32 → Int32 → cM → Option (cM) := fun x0 x1 x2 M =>
  t2 x0 x1 x2 (0 : Int32) M
def f_X8_gatherCuts_0 (F : Nat) : Nat → Int32 → Int32 → cM → Option (cM) := fun x0 x1 x2 M => b_X8_gatherCuts_0 F (f_X8_gatherCuts_2 F F) x0 x1 x2 M
def f_X8_gatherCuts (F : Nat) : Nat → Int32 → Int32 → cM → Option (cM) := fun a0 a1 a2 M => if isC M a0 6 = true then f_X8_gatherCuts_0 F a0 a1 a2 M else none
-- PatchbayScript$Stock.gatherEach(II)V
def b_X8_gatherEach_2 (F : Nat) (t2 : Nat → Int32 → Int32 → Int32 → cM → Option (cM)) : Nat → Int32 → Int32 → Int32 → cM → Option (cM) := fun x0 x1 x2 x3 M =>
  (fI M x0 6 2).bind fun v1 =>
  if v1 ≤ x3 then (
  (f_X8_addAtom F x0 ((3600 : Int32) + x1) x2 M).bind fun v2 =>
  some v2)
  else (
  (fR M x0 6 1).bind fun v3 =>
  (aR M v3 x3).bind fun v4 =>
  (f_X1_placesOfEach F v4 x1 M).bind fun v5 =>
  if v5.1 = 0 then (
  some v5.2)
  else (
  (fR v5.2 x0 6 5).bind fun v6 =>
  (fI v5.2 x0 6 7).bind fun v7 =>
  (sI 0 v5.2 v6 ((v7 * (4 : Int32)) + x3) v5.1).bind fun M8 =>
  (fR M8 x0 6 6).bind fun v9 =>
  (fI M8 x0 6 7).bind fun v10 =>
  (fR M8 x0 6 1).bind fun v11 =>
  (aR M8 v11 x3).bind fun v12 =>
  (f_X1_sizeOfEach F v12 x1 M8).bind fun v13 =>
  (sI 0 v13.2 v9 ((v10 * (4 : Int32)) + x3) v13.1).bind fun M14 =>
  t2 x0 x1 x2 (x3 + (1 : Int32)) M14))
def f_X8_gatherEach_2 (F : Nat) : Nat → Nat → Int32 → Int32 → Int32 → cM → Option (cM) := fun n => Nat.rec (fun _ _ _ _ _ => none) (fun _ ih x0 x1 x2 x3 M => b_X8_gatherEach_2 F (ih) x0 x1 x2 x3 M) n
def b_X8_gatherEach_0 (F : Nat) (t2 : Nat → Int32 → Int32 → Int32 → cM → Option (cM)) : Nat → Int32 → Int32 → cM → Option (cM) := fun x0 x1 x2 M =>
  t2 x0 x1 x2 (0 : Int32) M
def f_X8_gatherEach_0 (F : Nat) : Nat → Int32 → Int32 → cM → Option (cM) := fun x0 x1 x2 M => b_X8_gatherEach_0 F (f_X8_gatherEach_2 F F) x0 x1 x2 M
def f_X8_gatherEach (F : Nat) : Nat → Int32 → Int32 → cM → Option (cM) := fun a0 a1 a2 M => if isC M a0 6 = true then f_X8_gatherEach_0 F a0 a1 a2 M else none
-- PatchbayScript$Stock.gatherShared()V
def b_X8_gatherShared_45 (F : Nat) (t22 : Nat → Int32 → Nat → Int32 → cM → Option (cM)) (t45 : Nat → Int32 → Nat → Int32 → Int32 → Int32 → cM → Option (cM)) : Nat → Int32 → Nat → Int32 → Int32 → Int32 → cM → Option (cM) := fun x0 x1 x2 x3 x4 x5 M =>
  (fI M x0 6 2).bind fun v1 =>
  if v1 ≤ x5 then (
  (fR M x0 6 8).bind fun v2 =>
  (sI 0 M v2 ((x1 * (21 : Int32)) + x3) x4).bind fun M3 =>
  t22 x0 x1 x2 (x3 + (1 : Int32)) M3)
  else (
  (fR M x0 6 1).bind fun v4 =>
  (aR M v4 x5).bind fun v5 =>
  (f_X1_sharedFrom F v5 x2 x3 x4 M).bind fun v6 =>
  t45 x0 x1 x2 x3 v6.1 (x5 + (1 : Int32)) v6.2)
def f_X8_gatherShared_45 (F : Nat) (k2 : Nat → Int32 → cM → Option (cM)) (k22 : Nat → Int32 → Nat → Int32 → cM → Option (cM)) : Nat → Nat → Int32 → Nat → Int32 → Int32 → Int32 → cM → Option (cM) := fun n => Nat.rec (fun _ _ _ _ _ _ _ => none) (fun _ ih x0 x1 x2 x3 x4 x5 M => b_X8_gatherShared_45 F (k22) (ih) x0 x1 x2 x3 x4 x5 M) n
def b_X8_gatherShared_22 (F : Nat) (t2 : Nat → Int32 → cM → Option (cM)) (t45 : Nat → Int32 → Nat → Int32 → Int32 → Int32 → cM → Option (cM)) : Nat → Int32 → Nat → Int32 → cM → Option (cM) := fun x0 x1 x2 x3 M =>
  (fI M x2 8 2).bind fun v1 =>
  if v1 < x3 then (
  t2 x0 (x1 + (1 : Int32)) M)
  else (
  (fI M x2 8 2).bind fun v2 =>
  let v3 : Int32 := mnI (4 : Int32) (v2 - x3)
  t45 x0 x1 x2 x3 v3 (0 : Int32) M)
def f_X8_gatherShared_22 (F : Nat) (k2 : Nat → Int32 → cM → Option (cM)) : Nat → Nat → Int32 → Nat → Int32 → cM → Option (cM) := fun n => Nat.rec (fun _ _ _ _ _ => none) (fun _ ih x0 x1 x2 x3 M => b_X8_gatherShared_22 F (k2) (f_X8_gatherShared_45 F k2 ih F) x0 x1 x2 x3 M) n
def b_X8_gatherShared_2 (F : Nat) (t22 : Nat → Int32 → Nat → Int32 → cM → Option (cM)) : Nat → Int32 → cM → Option (cM) := fun x0 x1 M =>
  (fI M x0 6 2).bind fun v1 =>
  if v1 ≤ x1 then (
  some M)
  else (
  (fR M x0 6 1).bind fun v2 =>
  (aR M v2 x1).bind fun v3 =>
  (fR M v3 0 1).bind fun v4 =>
  t22 x0 x1 v4 (0 : Int32) M)
def f_X8_gatherShared_2 (F : Nat) : Nat → Nat → Int32 → cM → Option (cM) := fun n => Nat.rec (fun _ _ _ => none) (fun _ ih x0 x1 M => b_X8_gatherShared_2 F (f_X8_gatherShared_22 F ih F) x0 x1 M) n
def b_X8_gatherShared_0 (F : Nat) (t2 : Nat → Int32 → cM → Option (cM)) : Nat → cM → Option (cM) := fun x0 M =>
  t2 x0 (0 : Int32) M
def f_X8_gatherShared_0 (F : Nat) : Nat → cM → Option (cM) := fun x0 M => b_X8_gatherShared_0 F (f_X8_gatherShared_2 F F) x0 M
def f_X8_gatherShared (F : Nat) : Nat → cM → Option (cM) := fun a0 M => if isC M a0 6 = true then f_X8_gatherShared_0 F a0 M else none
-- PatchbayScript$Stock.gather(I)V
def b_X8_gather_118 (F : Nat) (t118 : Nat → Int32 → cM → Option (cM)) : Nat → Int32 → cM → Option (cM) := fun x0 x2 M =>
  if (72 : Int32) ≤ x2 then (
  (f_X8_gatherShared F x0 M).bind fun v1 =>
  some v1)
  else (
  (fI M x0 6 7).bind fun v2 =>
  if (1812 : Int32) ≤ v2 then (
  (f_X8_gatherShared F x0 M).bind fun v3 =>
  some v3)
  else (
  (f_X0_weightOf F ((3600 : Int32) + x2) M).bind fun v4 =>
  (f_X8_gatherEach F x0 x2 v4.1 v4.2).bind fun v5 =>
  t118 x0 (x2 + (1 : Int32)) v5))
def f_X8_gather_118 (F : Nat) : Nat → Nat → Int32 → cM → Option (cM) := fun n => Nat.rec (fun _ _ _ => none) (fun _ ih x0 x2 M => b_X8_gather_118 F (ih) x0 x2 M) n
def b_X8_gather_92 (F : Nat) (t84 : Nat → Int32 → cM → Option (cM)) (t92 : Nat → Int32 → Int32 → cM → Option (cM)) : Nat → Int32 → Int32 → cM → Option (cM) := fun x0 x2 x3 M =>
  if (30 : Int32) ≤ x3 then (
  t84 x0 (x2 + (1 : Int32)) M)
  else (
  (f_X8_gatherCuts F x0 x2 x3 M).bind fun v1 =>
  t92 x0 x2 (x3 + (1 : Int32)) v1)
def f_X8_gather_92 (F : Nat) (k84 : Nat → Int32 → cM → Option (cM)) : Nat → Nat → Int32 → Int32 → cM → Option (cM) := fun n => Nat.rec (fun _ _ _ _ => none) (fun _ ih x0 x2 x3 M => b_X8_gather_92 F (k84) (ih) x0 x2 x3 M) n
def b_X8_gather_84 (F : Nat) (t92 : Nat → Int32 → Int32 → cM → Option (cM)) (t118 : Nat → Int32 → cM → Option (cM)) : Nat → Int32 → cM → Option (cM) := fun x0 x2 M =>
  if (30 : Int32) ≤ x2 then (
  t118 x0 (0 : Int32) M)
  else (
  t92 x0 x2 (0 : Int32) M)
def f_X8_gather_84 (F : Nat) : Nat → Nat → Int32 → cM → Option (cM) := fun n => Nat.rec (fun _ _ _ => none) (fun _ ih x0 x2 M => b_X8_gather_84 F (f_X8_gather_92 F ih F) (f_X8_gather_118 F F) x0 x2 M) n
def b_X8_gather_63 (F : Nat) (t63 : Nat → Int32 → cM → Option (cM)) (t84 : Nat → Int32 → cM → Option (cM)) : Nat → Int32 → cM → Option (cM) := fun x0 x2 M =>
  if (21 : Int32) ≤ x2 then (
  t84 x0 (0 : Int32) M)
  else (
  (fR M x0 6 12).bind fun v1 =>
  (sI 0 M v1 x2 (-1 : Int32)).bind fun M2 =>
  t63 x0 (x2 + (1 : Int32)) M2)
def f_X8_gather_63 (F : Nat) : Nat → Nat → Int32 → cM → Option (cM) := fun n => Nat.rec (fun _ _ _ => none) (fun _ ih x0 x2 M => b_X8_gather_63 F (ih) (f_X8_gather_84 F F) x0 x2 M) n
def b_X8_gather_7 (F : Nat) (t7 : Nat → Int32 → Int32 → cM → Option (cM)) (t63 : Nat → Int32 → cM → Option (cM)) : Nat → Int32 → Int32 → cM → Option (cM) := fun x0 x1 x2 M =>
  if (4 : Int32) ≤ x2 then (
  (pF M x0 6 7 (.int (0 : Int32))).bind fun M1 =>
  (pF M1 x0 6 11 (.int (0 : Int32))).bind fun M2 =>
  t63 x0 (0 : Int32) M2)
  else (
  if (x1 >>> (x2 &&& 31)) &&& (1 : Int32) = 0 then (
  t7 x0 x1 (x2 + (1 : Int32)) M)
  else (
  (fR M x0 6 1).bind fun v3 =>
  (fI M x0 6 2).bind fun v4 =>
  (fR M x0 6 0).bind fun v5 =>
  (aR M v5 x2).bind fun v6 =>
  (sR M v3 v4 v6).bind fun M7 =>
  (fI M7 x0 6 2).bind fun v8 =>
  (pF M7 x0 6 2 (.int (v8 + (1 : Int32)))).bind fun M9 =>
  t7 x0 x1 (x2 + (1 : Int32)) M9))
def f_X8_gather_7 (F : Nat) : Nat → Nat → Int32 → Int32 → cM → Option (cM) := fun n => Nat.rec (fun _ _ _ _ => none) (fun _ ih x0 x1 x2 M => b_X8_gather_7 F (ih) (f_X8_gather_63 F F) x0 x1 x2 M) n
def b_X8_gather_0 (F : Nat) (t7 : Nat → Int32 → Int32 → cM → Option (cM)) : Nat → Int32 → cM → Option (cM) := fun x0 x1 M =>
  (pF M x0 6 2 (.int (0 : Int32))).bind fun M1 =>
  t7 x0 x1 (0 : Int32) M1
def f_X8_gather_0 (F : Nat) : Nat → Int32 → cM → Option (cM) := fun x0 x1 M => b_X8_gather_0 F (f_X8_gather_7 F F) x0 x1 M
def f_X8_gather (F : Nat) : Nat → Int32 → cM → Option (cM) := fun a0 a1 M => if isC M a0 6 = true then f_X8_gather_0 F a0 a1 M else none
-- PatchbayScript$Stock.indexOf(I)I
def b_X8_indexOf_2 (F : Nat) (t2 : Nat → Int32 → Int32 → cM → Option (Int32 × cM)) : Nat → Int32 → Int32 → cM → Option (Int32 × cM) := fun x0 x1 x2 M =>
  (fI M x0 6 7).bind fun v1 =>
  if v1 ≤ x2 then (
  some ((-1 : Int32), M))
  else (
  (fR M x0 6 3).bind fun v2 =>
  (aI 0 M v2 x2).bind fun v3 =>
  if v3 = x1 then (
  some (x2, M))
  else (
  t2 x0 x1 (x2 + (1 : Int32)) M))
def f_X8_indexOf_2 (F : Nat) : Nat → Nat → Int32 → Int32 → cM → Option (Int32 × cM) := fun n => Nat.rec (fun _ _ _ _ => none) (fun _ ih x0 x1 x2 M => b_X8_indexOf_2 F (ih) x0 x1 x2 M) n
def b_X8_indexOf_0 (F : Nat) (t2 : Nat → Int32 → Int32 → cM → Option (Int32 × cM)) : Nat → Int32 → cM → Option (Int32 × cM) := fun x0 x1 M =>
  t2 x0 x1 (0 : Int32) M
def f_X8_indexOf_0 (F : Nat) : Nat → Int32 → cM → Option (Int32 × cM) := fun x0 x1 M => b_X8_indexOf_0 F (f_X8_indexOf_2 F F) x0 x1 M
def f_X8_indexOf (F : Nat) : Nat → Int32 → cM → Option (Int32 × cM) := fun a0 a1 M => if isC M a0 6 = true then f_X8_indexOf_0 F a0 a1 M else none
-- PatchbayScript$Finder.layerOf(II)I
def b_X2_layerOf_0 (F : Nat) : Nat → Int32 → Int32 → cM → Option (Int32 × cM) := fun x0 x1 x2 M =>
  if x2 < x1 then (
  (fI M x0 1 7).bind fun v1 =>
  if v1 = 0 then (
  some (x1 - x2, M))
  else (
  dz (2 : Int32) (
  some (((1 : Int32) + ((x1 * (x1 - (1 : Int32))) / (2 : Int32))) + x2, M))))
  else (
  some ((0 : Int32), M))
def f_X2_layerOf_0 (F : Nat) : Nat → Int32 → Int32 → cM → Option (Int32 × cM) := fun x0 x1 x2 M => b_X2_layerOf_0 F x0 x1 x2 M
def f_X2_layerOf (F : Nat) : Nat → Int32 → Int32 → cM → Option (Int32 × cM) := fun a0 a1 a2 M => if isC M a0 1 = true then f_X2_layerOf_0 F a0 a1 a2 M else none
-- PatchbayScript$Finder.gatherConstWays(IIII)V
def b_X2_gatherConstWays_89 (F : Nat) (t33 : Nat → Int32 → Int32 → Int32 → Int32 → Nat → Int32 → Int32 → Int32 → cM → Option (cM)) : Nat → Int32 → Int32 → Int32 → Int32 → Nat → Int32 → Int32 → Int32 → cM → Option (cM) := fun x0 x1 x2 x3 x4 x5 x6 x7 x8 M =>
  (fR M x0 1 8).bind fun v1 =>
  (aJ M v1 (x2 + x6)).bind fun v2 =>
  (fR M x0 1 8).bind fun v3 =>
  (aJ M v3 ((x3 + x6) + x8)).bind fun v4 =>
  (f_X0_weightOfConst F x8 M).bind fun v5 =>
  (sJ v5.2 v1 (x2 + x6) (v2 ||| (v4 <<< ((v5.1 - (4 : Int32)).toInt64 &&& 63)))).bind fun M6 =>
  t33 x0 x1 x2 x3 x4 x5 x6 x7 (x8 + (1 : Int32)) M6
def f_X2_gatherConstWays_89 (F : Nat) (k17 : Nat → Int32 → Int32 → Int32 → Int32 → Nat → Int32 → cM → Option (cM)) (k33 : Nat → Int32 → Int32 → Int32 → Int32 → Nat → Int32 → Int32 → Int32 → cM → Option (cM)) : Nat → Int32 → Int32 → Int32 → Int32 → Nat → Int32 → Int32 → Int32 → cM → Option (cM) := fun x0 x1 x2 x3 x4 x5 x6 x7 x8 M => b_X2_gatherConstWays_89 F (k33) x0 x1 x2 x3 x4 x5 x6 x7 x8 M
def b_X2_gatherConstWays_33 (F : Nat) (t17 : Nat → Int32 → Int32 → Int32 → Int32 → Nat → Int32 → cM → Option (cM)) (t33 : Nat → Int32 → Int32 → Int32 → Int32 → Nat → Int32 → Int32 → Int32 → cM → Option (cM)) (t89 : Nat → Int32 → Int32 → Int32 → Int32 → Nat → Int32 → Int32 → Int32 → cM → Option (cM)) : Nat → Int32 → Int32 → Int32 → Int32 → Nat → Int32 → Int32 → Int32 → cM → Option (cM) := fun x0 x1 x2 x3 x4 x5 x6 x7 x8 M =>
  (fR M x0 1 2).bind fun v1 =>
  (fR M v1 6 8).bind fun v2 =>
  (aI 0 M v2 ((x1 * (21 : Int32)) + x6)).bind fun v3 =>
  if v3 < x8 then (
  t17 x0 x1 x2 x3 x4 x5 (x6 + (1 : Int32)) M)
  else (
  (f_X10_at F x5 ((x6 + x8) - (1 : Int32)) M).bind fun v4 =>
  (f_X0_withSign F x7 (x8 - (1 : Int32)) v4.1 v4.2).bind fun v5 =>
  if x4 = (-1 : Int32) then (
  t89 x0 x1 x2 x3 x4 x5 x6 v5.1 x8 v5.2)
  else (
  if x4 = v5.1 then (
  t89 x0 x1 x2 x3 x4 x5 x6 v5.1 x8 v5.2)
  else (
  t33 x0 x1 x2 x3 x4 x5 x6 v5.1 (x8 + (1 : Int32)) v5.2)))
def f_X2_gatherConstWays_33 (F : Nat) (k17 : Nat → Int32 → Int32 → Int32 → Int32 → Nat → Int32 → cM → Option (cM)) : Nat → Nat → Int32 → Int32 → Int32 → Int32 → Nat → Int32 → Int32 → Int32 → cM → Option (cM) := fun n => Nat.rec (fun _ _ _ _ _ _ _ _ _ _ => none) (fun _ ih x0 x1 x2 x3 x4 x5 x6 x7 x8 M => b_X2_gatherConstWays_33 F (k17) (ih) (f_X2_gatherConstWays_89 F k17 ih) x0 x1 x2 x3 x4 x5 x6 x7 x8 M) n
def b_X2_gatherConstWays_17 (F : Nat) (t33 : Nat → Int32 → Int32 → Int32 → Int32 → Nat → Int32 → Int32 → Int32 → cM → Option (cM)) : Nat → Int32 → Int32 → Int32 → Int32 → Nat → Int32 → cM → Option (cM) := fun x0 x1 x2 x3 x4 x5 x6 M =>
  (fI M x5 8 2).bind fun v1 =>
  if v1 ≤ x6 then (
  some M)
  else (
  t33 x0 x1 x2 x3 x4 x5 x6 (0 : Int32) (1 : Int32) M)
def f_X2_gatherConstWays_17 (F : Nat) : Nat → Nat → Int32 → Int32 → Int32 → Int32 → Nat → Int32 → cM → Option (cM) := fun n => Nat.rec (fun _ _ _ _ _ _ _ _ => none) (fun _ ih x0 x1 x2 x3 x4 x5 x6 M => b_X2_gatherConstWays_17 F (f_X2_gatherConstWays_33 F ih F) x0 x1 x2 x3 x4 x5 x6 M) n
def b_X2_gatherConstWays_0 (F : Nat) (t17 : Nat → Int32 → Int32 → Int32 → Int32 → Nat → Int32 → cM → Option (cM)) : Nat → Int32 → Int32 → Int32 → Int32 → cM → Option (cM) := fun x0 x1 x2 x3 x4 M =>
  (fR M x0 1 2).bind fun v1 =>
  (fR M v1 6 1).bind fun v2 =>
  (aR M v2 x1).bind fun v3 =>
  (fR M v3 0 1).bind fun v4 =>
  t17 x0 x1 x2 x3 x4 v4 (0 : Int32) M
def f_X2_gatherConstWays_0 (F : Nat) : Nat → Int32 → Int32 → Int32 → Int32 → cM → Option (cM) := fun x0 x1 x2 x3 x4 M => b_X2_gatherConstWays_0 F (f_X2_gatherConstWays_17 F F) x0 x1 x2 x3 x4 M
def f_X2_gatherConstWays (F : Nat) : Nat → Int32 → Int32 → Int32 → Int32 → cM → Option (cM) := fun a0 a1 a2 a3 a4 M => if isC M a0 1 = true then f_X2_gatherConstWays_0 F a0 a1 a2 a3 a4 M else none
-- java/lang/Integer.bitCount(I)I
def b_J6_bitCount_0f7a4_24 (F : Nat) : Int32 → cM → Option (Int32 × cM) := fun x0 M =>
  let v1 : Int32 := (x0 + ((x0.toUInt32 >>> ((4 : Int32).toUInt32 &&& Int32.toUInt32 31)).toInt32)) &&& (252645135 : Int32)
  let v2 : Int32 := v1 + ((v1.toUInt32 >>> ((8 : Int32).toUInt32 &&& Int32.toUInt32 31)).toInt32)
  let v3 : Int32 := v2 + ((v2.toUInt32 >>> ((16 : Int32).toUInt32 &&& Int32.toUInt32 31)).toInt32)
  some (v3 &&& (63 : Int32), M)
def f_J6_bitCount_0f7a4_24 (F : Nat) : Int32 → cM → Option (Int32 × cM) := fun x0 M => b_J6_bitCount_0f7a4_24 F x0 M
def b_J6_bitCount_0f7a4_0 (F : Nat) (t24 : Int32 → cM → Option (Int32 × cM)) : Int32 → cM → Option (Int32 × cM) := fun x0 M =>
  let v1 : Int32 := x0 - (((x0.toUInt32 >>> ((1 : Int32).toUInt32 &&& Int32.toUInt32 31)).toInt32) &&& (1431655765 : Int32))
  let v2 : Int32 := (v1 &&& (858993459 : Int32)) + (((v1.toUInt32 >>> ((2 : Int32).toUInt32 &&& Int32.toUInt32 31)).toInt32) &&& (858993459 : Int32))
  t24 v2 M
def f_J6_bitCount_0f7a4_0 (F : Nat) : Int32 → cM → Option (Int32 × cM) := fun x0 M => b_J6_bitCount_0f7a4_0 F (f_J6_bitCount_0f7a4_24 F) x0 M
def f_J6_bitCount_0f7a4 (F : Nat) : Int32 → cM → Option (Int32 × cM) := fun a0 M => f_J6_bitCount_0f7a4_0 F a0 M
-- PatchbayScript$Finder.heavier(JI)J
def b_X2_heavier_5 (F : Nat) (t5 : Int64 → Int32 → Int64 → Int32 → cM → Option (Int64 × cM)) : Int64 → Int32 → Int64 → Int32 → cM → Option (Int64 × cM) := fun x0 x2 x3 x5 M =>
  if lg_cmp x0 (0 : Int64) = 0 then (
  some (x3, M))
  else (
  if (12 : Int32) < x5 then (
  some (x3, M))
  else (
  if (x2 >>> (x5 &&& 31)) &&& (1 : Int32) = 0 then (
  t5 x0 x2 x3 (x5 + (1 : Int32)) M)
  else (
  let v1 : Int64 := x3 ||| (x0 <<< (x5.toInt64 &&& 63))
  t5 x0 x2 v1 (x5 + (1 : Int32)) M)))
def f_X2_heavier_5 (F : Nat) : Nat → Int64 → Int32 → Int64 → Int32 → cM → Option (Int64 × cM) := fun n => Nat.rec (fun _ _ _ _ _ => none) (fun _ ih x0 x2 x3 x5 M => b_X2_heavier_5 F (ih) x0 x2 x3 x5 M) n
def b_X2_heavier_0 (F : Nat) (t5 : Int64 → Int32 → Int64 → Int32 → cM → Option (Int64 × cM)) : Int64 → Int32 → cM → Option (Int64 × cM) := fun x0 x2 M =>
  t5 x0 x2 (0 : Int64) (0 : Int32) M
def f_X2_heavier_0 (F : Nat) : Int64 → Int32 → cM → Option (Int64 × cM) := fun x0 x2 M => b_X2_heavier_0 F (f_X2_heavier_5 F F) x0 x2 M
def f_X2_heavier (F : Nat) : Int64 → Int32 → cM → Option (Int64 × cM) := fun a0 a1 M => f_X2_heavier_0 F a0 a1 M
-- PatchbayScript$Finder.gatherAtomWays(IIII)V
def b_X2_gatherAtomWays_29 (F : Nat) (t29 : Nat → Int32 → Int32 → Int32 → Int32 → Int32 → Int32 → cM → Option (cM)) : Nat → Int32 → Int32 → Int32 → Int32 → Int32 → Int32 → cM → Option (cM) := fun x0 x2 x3 x4 x5 x6 x7 M =>
  if x7 ≤ 0 then (
  some M)
  else (
  (f_J6_bitCount_0f7a4 F ((x5 &&& (-x5)) - (1 : Int32)) M).bind fun v1 =>
  let v2 : Int32 := x5 - (x5 &&& (-x5))
  (fR v1.2 x0 1 8).bind fun v3 =>
  (aJ v1.2 v3 (x3 + v1.1)).bind fun v4 =>
  (fR v1.2 x0 1 8).bind fun v5 =>
  (aJ v1.2 v5 ((x4 + v1.1) + x6)).bind fun v6 =>
  (f_X2_heavier F v6 x2 v1.2).bind fun v7 =>
  (sJ v7.2 v3 (x3 + v1.1) (v4 ||| v7.1)).bind fun M8 =>
  t29 x0 x2 x3 x4 v2 x6 (x7 + (-1 : Int32)) M8)
def f_X2_gatherAtomWays_29 (F : Nat) : Nat → Nat → Int32 → Int32 → Int32 → Int32 → Int32 → Int32 → cM → Option (cM) := fun n => Nat.rec (fun _ _ _ _ _ _ _ _ => none) (fun _ ih x0 x2 x3 x4 x5 x6 x7 M => b_X2_gatherAtomWays_29 F (ih) x0 x2 x3 x4 x5 x6 x7 M) n
def b_X2_gatherAtomWays_0 (F : Nat) (t29 : Nat → Int32 → Int32 → Int32 → Int32 → Int32 → Int32 → cM → Option (cM)) : Nat → Int32 → Int32 → Int32 → Int32 → cM → Option (cM) := fun x0 x1 x2 x3 x4 M =>
  (fR M x0 1 2).bind fun v1 =>
  (fR M v1 6 5).bind fun v2 =>
  (aI 0 M v2 x1).bind fun v3 =>
  (fR M x0 1 2).bind fun v4 =>
  (fR M v4 6 6).bind fun v5 =>
  (aI 0 M v5 x1).bind fun v6 =>
  (f_J6_bitCount_0f7a4 F v3 M).bind fun v7 =>
  t29 x0 x2 x3 x4 v3 v6 v7.1 v7.2
def f_X2_gatherAtomWays_0 (F : Nat) : Nat → Int32 → Int32 → Int32 → Int32 → cM → Option (cM) := fun x0 x1 x2 x3 x4 M => b_X2_gatherAtomWays_0 F (f_X2_gatherAtomWays_29 F F) x0 x1 x2 x3 x4 M
def f_X2_gatherAtomWays (F : Nat) : Nat → Int32 → Int32 → Int32 → Int32 → cM → Option (cM) := fun a0 a1 a2 a3 a4 M => if isC M a0 1 = true then f_X2_gatherAtomWays_0 F a0 a1 a2 a3 a4 M else none
-- PatchbayScript$Finder.gatherLayer(III)V
def b_X2_gatherLayer_134 (F : Nat) (t3 : Nat → Int32 → Int32 → Int32 → Int32 → cM → Option (cM)) (t134 : Nat → Int32 → Int32 → Int32 → Int32 → Int32 → Int32 → Int32 → cM → Option (cM)) : Nat → Int32 → Int32 → Int32 → Int32 → Int32 → Int32 → Int32 → cM → Option (cM) := fun x0 x1 x2 x3 x4 x5 x6 x7 M =>
  (fR M x0 1 2).bind fun v1 =>
  (fI M v1 6 11).bind fun v2 =>
  if v2 ≤ x7 then (
  t3 x0 x1 x2 x3 (x4 + (1 : Int32)) M)
  else (
  (fR M x0 1 5).bind fun v3 =>
  (aI 0 M v3 x3).bind fun v4 =>
  if v4 = (-1 : Int32) then (
  (fR M x0 1 2).bind fun v5 =>
  (fR M v5 6 9).bind fun v6 =>
  (aI 0 M v6 x7).bind fun v7 =>
  (fR M x0 1 2).bind fun v8 =>
  (fR M v8 6 10).bind fun v9 =>
  (aI 0 M v9 x7).bind fun v10 =>
  (f_X2_gatherAtomWays F x0 ((v7 * (4 : Int32)) + x4) v10 x5 x6 M).bind fun v11 =>
  t134 x0 x1 x2 x3 x4 x5 x6 (x7 + (1 : Int32)) v11)
  else (
  t3 x0 x1 x2 x3 (x4 + (1 : Int32)) M))
def f_X2_gatherLayer_134 (F : Nat) (k3 : Nat → Int32 → Int32 → Int32 → Int32 → cM → Option (cM)) : Nat → Nat → Int32 → Int32 → Int32 → Int32 → Int32 → Int32 → Int32 → cM → Option (cM) := fun n => Nat.rec (fun _ _ _ _ _ _ _ _ _ => none) (fun _ ih x0 x1 x2 x3 x4 x5 x6 x7 M => b_X2_gatherLayer_134 F (k3) (ih) x0 x1 x2 x3 x4 x5 x6 x7 M) n
def b_X2_gatherLayer_90 (F : Nat) (t134 : Nat → Int32 → Int32 → Int32 → Int32 → Int32 → Int32 → Int32 → cM → Option (cM)) : Nat → Int32 → Int32 → Int32 → Int32 → Int32 → Int32 → cM → Option (cM) := fun x0 x1 x2 x3 x4 x5 x6 M =>
  (fR M x0 1 2).bind fun v1 =>
  (fR M v1 6 4).bind fun v2 =>
  (fR M x0 1 6).bind fun v3 =>
  (aI 0 M v3 x3).bind fun v4 =>
  (aI 0 M v2 v4).bind fun v5 =>
  let v6 : Int32 := (1 : Int32) <<< ((v5 - (4 : Int32)) &&& 31)
  (fR M x0 1 6).bind fun v7 =>
  (aI 0 M v7 x3).bind fun v8 =>
  (f_X2_gatherAtomWays F x0 ((v8 * (4 : Int32)) + x4) v6 x5 x6 M).bind fun v9 =>
  t134 x0 x1 x2 x3 x4 x5 x6 (0 : Int32) v9
def f_X2_gatherLayer_90 (F : Nat) (k3 : Nat → Int32 → Int32 → Int32 → Int32 → cM → Option (cM)) : Nat → Int32 → Int32 → Int32 → Int32 → Int32 → Int32 → cM → Option (cM) := fun x0 x1 x2 x3 x4 x5 x6 M => b_X2_gatherLayer_90 F (f_X2_gatherLayer_134 F k3 F) x0 x1 x2 x3 x4 x5 x6 M
def b_X2_gatherLayer_40 (F : Nat) (t40 : Nat → Int32 → Int32 → Int32 → Int32 → Int32 → Int32 → Int32 → cM → Option (cM)) (t90 : Nat → Int32 → Int32 → Int32 → Int32 → Int32 → Int32 → cM → Option (cM)) (t134 : Nat → Int32 → Int32 → Int32 → Int32 → Int32 → Int32 → Int32 → cM → Option (cM)) : Nat → Int32 → Int32 → Int32 → Int32 → Int32 → Int32 → Int32 → cM → Option (cM) := fun x0 x1 x2 x3 x4 x5 x6 x7 M =>
  if (21 : Int32) ≤ x7 then (
  (fR M x0 1 5).bind fun v1 =>
  (aI 0 M v1 x3).bind fun v2 =>
  (f_X2_gatherConstWays F x0 x4 x5 x6 v2 M).bind fun v3 =>
  (fR v3 x0 1 6).bind fun v4 =>
  (aI 0 v3 v4 x3).bind fun v5 =>
  if v5 = (-1 : Int32) then (
  t134 x0 x1 x2 x3 x4 x5 x6 (0 : Int32) v3)
  else (
  t90 x0 x1 x2 x3 x4 x5 x6 v3))
  else (
  (fR M x0 1 8).bind fun v6 =>
  (sJ M v6 (x5 + x7) (0 : Int64)).bind fun M7 =>
  t40 x0 x1 x2 x3 x4 x5 x6 (x7 + (1 : Int32)) M7)
def f_X2_gatherLayer_40 (F : Nat) (k3 : Nat → Int32 → Int32 → Int32 → Int32 → cM → Option (cM)) : Nat → Nat → Int32 → Int32 → Int32 → Int32 → Int32 → Int32 → Int32 → cM → Option (cM) := fun n => Nat.rec (fun _ _ _ _ _ _ _ _ _ => none) (fun _ ih x0 x1 x2 x3 x4 x5 x6 x7 M => b_X2_gatherLayer_40 F (ih) (f_X2_gatherLayer_90 F k3) (f_X2_gatherLayer_134 F k3 F) x0 x1 x2 x3 x4 x5 x6 x7 M) n
def b_X2_gatherLayer_3 (F : Nat) (t40 : Nat → Int32 → Int32 → Int32 → Int32 → Int32 → Int32 → Int32 → cM → Option (cM)) : Nat → Int32 → Int32 → Int32 → Int32 → cM → Option (cM) := fun x0 x1 x2 x3 x4 M =>
  (fR M x0 1 2).bind fun v1 =>
  (fI M v1 6 2).bind fun v2 =>
  if v2 ≤ x4 then (
  some M)
  else (
  let v3 : Int32 := ((x1 * (4 : Int32)) + x4) * (21 : Int32)
  let v4 : Int32 := ((x2 * (4 : Int32)) + x4) * (21 : Int32)
  t40 x0 x1 x2 x3 x4 v3 v4 (0 : Int32) M)
def f_X2_gatherLayer_3 (F : Nat) : Nat → Nat → Int32 → Int32 → Int32 → Int32 → cM → Option (cM) := fun n => Nat.rec (fun _ _ _ _ _ _ => none) (fun _ ih x0 x1 x2 x3 x4 M => b_X2_gatherLayer_3 F (f_X2_gatherLayer_40 F ih F) x0 x1 x2 x3 x4 M) n
def b_X2_gatherLayer_0 (F : Nat) (t3 : Nat → Int32 → Int32 → Int32 → Int32 → cM → Option (cM)) : Nat → Int32 → Int32 → Int32 → cM → Option (cM) := fun x0 x1 x2 x3 M =>
  t3 x0 x1 x2 x3 (0 : Int32) M
def f_X2_gatherLayer_0 (F : Nat) : Nat → Int32 → Int32 → Int32 → cM → Option (cM) := fun x0 x1 x2 x3 M => b_X2_gatherLayer_0 F (f_X2_gatherLayer_3 F F) x0 x1 x2 x3 M
def f_X2_gatherLayer (F : Nat) : Nat → Int32 → Int32 → Int32 → cM → Option (cM) := fun a0 a1 a2 a3 M => if isC M a0 1 = true then f_X2_gatherLayer_0 F a0 a1 a2 a3 M else none
-- PatchbayScript$Finder.gatherWays()V
def b_X2_gatherWays_97 (F : Nat) (t77 : Nat → Int32 → cM → Option (cM)) (t97 : Nat → Int32 → Int32 → cM → Option (cM)) : Nat → Int32 → Int32 → cM → Option (cM) := fun x0 x1 x2 M =>
  if x2 < 0 then (
  t77 x0 (x1 + (1 : Int32)) M)
  else (
  (f_X2_layerOf F x0 x1 x2 M).bind fun v1 =>
  (f_X2_layerOf F x0 x1 (x2 + (1 : Int32)) v1.2).bind fun v2 =>
  (f_X2_gatherLayer F x0 v1.1 v2.1 x2 v2.2).bind fun v3 =>
  t97 x0 x1 (x2 + (-1 : Int32)) v3)
def f_X2_gatherWays_97 (F : Nat) (k77 : Nat → Int32 → cM → Option (cM)) : Nat → Nat → Int32 → Int32 → cM → Option (cM) := fun n => Nat.rec (fun _ _ _ _ => none) (fun _ ih x0 x1 x2 M => b_X2_gatherWays_97 F (k77) (ih) x0 x1 x2 M) n
def b_X2_gatherWays_77 (F : Nat) (t97 : Nat → Int32 → Int32 → cM → Option (cM)) : Nat → Int32 → cM → Option (cM) := fun x0 x1 M =>
  if (4 : Int32) < x1 then (
  some M)
  else (
  (fI M x0 1 7).bind fun v1 =>
  if v1 = 0 then (
  t97 x0 x1 (0 : Int32) M)
  else (
  t97 x0 x1 (x1 - (1 : Int32)) M))
def f_X2_gatherWays_77 (F : Nat) : Nat → Nat → Int32 → cM → Option (cM) := fun n => Nat.rec (fun _ _ _ => none) (fun _ ih x0 x1 M => b_X2_gatherWays_77 F (f_X2_gatherWays_97 F ih F) x0 x1 M) n
def b_X2_gatherWays_22 (F : Nat) (t2 : Nat → Int32 → cM → Option (cM)) (t22 : Nat → Int32 → Int32 → cM → Option (cM)) : Nat → Int32 → Int32 → cM → Option (cM) := fun x0 x1 x2 M =>
  if (21 : Int32) ≤ x2 then (
  t2 x0 (x1 + (1 : Int32)) M)
  else (
  (fR M x0 1 8).bind fun v1 =>
  (fR M x0 1 2).bind fun v2 =>
  (fR M v2 6 1).bind fun v3 =>
  (aR M v3 x1).bind fun v4 =>
  (fR M v4 0 1).bind fun v5 =>
  (fI M v5 8 2).bind fun v6 =>
  if x2 = v6 then (
  (sJ M v1 ((x1 * (21 : Int32)) + x2) (1 : Int64)).bind fun M7 =>
  t22 x0 x1 (x2 + (1 : Int32)) M7)
  else (
  (sJ M v1 ((x1 * (21 : Int32)) + x2) (0 : Int64)).bind fun M8 =>
  t22 x0 x1 (x2 + (1 : Int32)) M8))
def f_X2_gatherWays_22 (F : Nat) (k2 : Nat → Int32 → cM → Option (cM)) : Nat → Nat → Int32 → Int32 → cM → Option (cM) := fun n => Nat.rec (fun _ _ _ _ => none) (fun _ ih x0 x1 x2 M => b_X2_gatherWays_22 F (k2) (ih) x0 x1 x2 M) n
def b_X2_gatherWays_2 (F : Nat) (t22 : Nat → Int32 → Int32 → cM → Option (cM)) (t77 : Nat → Int32 → cM → Option (cM)) : Nat → Int32 → cM → Option (cM) := fun x0 x1 M =>
  (fR M x0 1 2).bind fun v1 =>
  (fI M v1 6 2).bind fun v2 =>
  if v2 ≤ x1 then (
  t77 x0 (1 : Int32) M)
  else (
  (fR M x0 1 12).bind fun v3 =>
  (sI 0 M v3 x1 (0 : Int32)).bind fun M4 =>
  t22 x0 x1 (0 : Int32) M4)
def f_X2_gatherWays_2 (F : Nat) : Nat → Nat → Int32 → cM → Option (cM) := fun n => Nat.rec (fun _ _ _ => none) (fun _ ih x0 x1 M => b_X2_gatherWays_2 F (f_X2_gatherWays_22 F ih F) (f_X2_gatherWays_77 F F) x0 x1 M) n
def b_X2_gatherWays_0 (F : Nat) (t2 : Nat → Int32 → cM → Option (cM)) : Nat → cM → Option (cM) := fun x0 M =>
  t2 x0 (0 : Int32) M
def f_X2_gatherWays_0 (F : Nat) : Nat → cM → Option (cM) := fun x0 M => b_X2_gatherWays_0 F (f_X2_gatherWays_2 F F) x0 M
def f_X2_gatherWays (F : Nat) : Nat → cM → Option (cM) := fun a0 M => if isC M a0 1 = true then f_X2_gatherWays_0 F a0 M else none
-- PatchbayScript$Finder.keyOf(II)J
def b_X2_keyOf_15 (F : Nat) (t15 : Nat → Int32 → Int64 → Int32 → cM → Option (Int64 × cM)) : Nat → Int32 → Int64 → Int32 → cM → Option (Int64 × cM) := fun x0 x2 x3 x5 M =>
  if (4 : Int32) ≤ x5 then (
  some (x3, M))
  else (
  (fR M x0 1 2).bind fun v1 =>
  (fI M v1 6 2).bind fun v2 =>
  if v2 ≤ x5 then (
  let v3 : Int64 := (x3 * (21 : Int64)) + (0 : Int32).toInt64
  t15 x0 x2 v3 (x5 + (1 : Int32)) M)
  else (
  (fR M x0 1 12).bind fun v4 =>
  (aI 0 M v4 ((x2 * (4 : Int32)) + x5)).bind fun v5 =>
  let v6 : Int64 := (x3 * (21 : Int64)) + v5.toInt64
  t15 x0 x2 v6 (x5 + (1 : Int32)) M))
def f_X2_keyOf_15 (F : Nat) : Nat → Nat → Int32 → Int64 → Int32 → cM → Option (Int64 × cM) := fun n => Nat.rec (fun _ _ _ _ _ => none) (fun _ ih x0 x2 x3 x5 M => b_X2_keyOf_15 F (ih) x0 x2 x3 x5 M) n
def b_X2_keyOf_0 (F : Nat) (t15 : Nat → Int32 → Int64 → Int32 → cM → Option (Int64 × cM)) : Nat → Int32 → Int32 → cM → Option (Int64 × cM) := fun x0 x1 x2 M =>
  (fJ M x0 1 11).bind fun v1 =>
  let v2 : Int64 := (v1 * (11 : Int64)) + x1.toInt64
  t15 x0 x2 v2 (0 : Int32) M
def f_X2_keyOf_0 (F : Nat) : Nat → Int32 → Int32 → cM → Option (Int64 × cM) := fun x0 x1 x2 M => b_X2_keyOf_0 F (f_X2_keyOf_15 F F) x0 x1 x2 M
def f_X2_keyOf (F : Nat) : Nat → Int32 → Int32 → cM → Option (Int64 × cM) := fun a0 a1 a2 M => if isC M a0 1 = true then f_X2_keyOf_0 F a0 a1 a2 M else none
-- PatchbayScript$Finder.stepOverSign(II)C
def b_X2_stepOverSign_56 (F : Nat) (t31 : Nat → Int32 → Int32 → Int32 → Int32 → cM → Option (Int32 × cM)) : Nat → Int32 → Int32 → Int32 → Int32 → Int32 → cM → Option (Int32 × cM) := fun x0 x1 x2 x3 x4 x5 M =>
  (fR M x0 1 2).bind fun v1 =>
  (fR M v1 6 1).bind fun v2 =>
  (aR M v2 x4).bind fun v3 =>
  (fR M v3 0 1).bind fun v4 =>
  (f_X10_at F v4 ((x5 + x2) - (1 : Int32)) M).bind fun v5 =>
  if v5.1 = x3 then (
  (fR v5.2 x0 1 12).bind fun v6 =>
  (sI 0 v5.2 v6 (((x1 + (1 : Int32)) * (4 : Int32)) + x4) (x5 + x2)).bind fun M7 =>
  t31 x0 x1 x2 x3 (x4 + (1 : Int32)) M7)
  else (
  some ((0 : Int32), v5.2))
def f_X2_stepOverSign_56 (F : Nat) (k31 : Nat → Int32 → Int32 → Int32 → Int32 → cM → Option (Int32 × cM)) : Nat → Int32 → Int32 → Int32 → Int32 → Int32 → cM → Option (Int32 × cM) := fun x0 x1 x2 x3 x4 x5 M => b_X2_stepOverSign_56 F (k31) x0 x1 x2 x3 x4 x5 M
def b_X2_stepOverSign_31 (F : Nat) (t56 : Nat → Int32 → Int32 → Int32 → Int32 → Int32 → cM → Option (Int32 × cM)) : Nat → Int32 → Int32 → Int32 → Int32 → cM → Option (Int32 × cM) := fun x0 x1 x2 x3 x4 M =>
  (fR M x0 1 2).bind fun v1 =>
  (fI M v1 6 2).bind fun v2 =>
  if v2 ≤ x4 then (
  if vp_nar .char x3 = x3 then some (x3, M) else none)
  else (
  (fR M x0 1 12).bind fun v3 =>
  (aI 0 M v3 ((x1 * (4 : Int32)) + x4)).bind fun v4 =>
  t56 x0 x1 x2 x3 x4 v4 M)
def f_X2_stepOverSign_31 (F : Nat) : Nat → Nat → Int32 → Int32 → Int32 → Int32 → cM → Option (Int32 × cM) := fun n => Nat.rec (fun _ _ _ _ _ _ => none) (fun _ ih x0 x1 x2 x3 x4 M => b_X2_stepOverSign_31 F (f_X2_stepOverSign_56 F ih) x0 x1 x2 x3 x4 M) n
def b_X2_stepOverSign_0 (F : Nat) (t31 : Nat → Int32 → Int32 → Int32 → Int32 → cM → Option (Int32 × cM)) : Nat → Int32 → Int32 → cM → Option (Int32 × cM) := fun x0 x1 x2 M =>
  (fR M x0 1 2).bind fun v1 =>
  (fR M v1 6 1).bind fun v2 =>
  (aR M v2 (0 : Int32)).bind fun v3 =>
  (fR M v3 0 1).bind fun v4 =>
  (fR M x0 1 12).bind fun v5 =>
  (aI 0 M v5 (x1 * (4 : Int32))).bind fun v6 =>
  (f_X10_at F v4 ((v6 + x2) - (1 : Int32)) M).bind fun v7 =>
  t31 x0 x1 x2 v7.1 (0 : Int32) v7.2
def f_X2_stepOverSign_0 (F : Nat) : Nat → Int32 → Int32 → cM → Option (Int32 × cM) := fun x0 x1 x2 M => b_X2_stepOverSign_0 F (f_X2_stepOverSign_31 F F) x0 x1 x2 M
def f_X2_stepOverSign (F : Nat) : Nat → Int32 → Int32 → cM → Option (Int32 × cM) := fun a0 a1 a2 M => if isC M a0 1 = true then f_X2_stepOverSign_0 F a0 a1 a2 M else none
-- PatchbayScript$Finder.stepsOver(II)Z
def b_X2_stepsOver_48 (F : Nat) (t2 : Nat → Int32 → Int32 → Int32 → cM → Option (Int32 × cM)) : Nat → Int32 → Int32 → Int32 → Int32 → cM → Option (Int32 × cM) := fun x0 x1 x2 x3 x4 M =>
  (fR M x0 1 12).bind fun v1 =>
  (fR M x0 1 2).bind fun v2 =>
  (fR M v2 6 6).bind fun v3 =>
  (aI 0 M v3 ((x1 * (4 : Int32)) + x3)).bind fun v4 =>
  (sI 0 M v1 (((x2 + (1 : Int32)) * (4 : Int32)) + x3) (x4 + v4)).bind fun M5 =>
  t2 x0 x1 x2 (x3 + (1 : Int32)) M5
def f_X2_stepsOver_48 (F : Nat) (k2 : Nat → Int32 → Int32 → Int32 → cM → Option (Int32 × cM)) : Nat → Int32 → Int32 → Int32 → Int32 → cM → Option (Int32 × cM) := fun x0 x1 x2 x3 x4 M => b_X2_stepsOver_48 F (k2) x0 x1 x2 x3 x4 M
def b_X2_stepsOver_2 (F : Nat) (t48 : Nat → Int32 → Int32 → Int32 → Int32 → cM → Option (Int32 × cM)) : Nat → Int32 → Int32 → Int32 → cM → Option (Int32 × cM) := fun x0 x1 x2 x3 M =>
  (fR M x0 1 2).bind fun v1 =>
  (fI M v1 6 2).bind fun v2 =>
  if v2 ≤ x3 then (
  some ((1 : Int32), M))
  else (
  (fR M x0 1 12).bind fun v3 =>
  (aI 0 M v3 ((x2 * (4 : Int32)) + x3)).bind fun v4 =>
  (fR M x0 1 2).bind fun v5 =>
  (fR M v5 6 5).bind fun v6 =>
  (aI 0 M v6 ((x1 * (4 : Int32)) + x3)).bind fun v7 =>
  if (v7 >>> (v4 &&& 31)) &&& (1 : Int32) = 0 then (
  some ((0 : Int32), M))
  else (
  t48 x0 x1 x2 x3 v4 M))
def f_X2_stepsOver_2 (F : Nat) : Nat → Nat → Int32 → Int32 → Int32 → cM → Option (Int32 × cM) := fun n => Nat.rec (fun _ _ _ _ _ => none) (fun _ ih x0 x1 x2 x3 M => b_X2_stepsOver_2 F (f_X2_stepsOver_48 F ih) x0 x1 x2 x3 M) n
def b_X2_stepsOver_0 (F : Nat) (t2 : Nat → Int32 → Int32 → Int32 → cM → Option (Int32 × cM)) : Nat → Int32 → Int32 → cM → Option (Int32 × cM) := fun x0 x1 x2 M =>
  t2 x0 x1 x2 (0 : Int32) M
def f_X2_stepsOver_0 (F : Nat) : Nat → Int32 → Int32 → cM → Option (Int32 × cM) := fun x0 x1 x2 M => b_X2_stepsOver_0 F (f_X2_stepsOver_2 F F) x0 x1 x2 M
def f_X2_stepsOver (F : Nat) : Nat → Int32 → Int32 → cM → Option (Int32 × cM) := fun a0 a1 a2 M => if isC M a0 1 = true then f_X2_stepsOver_0 F a0 a1 a2 M else none
-- PatchbayScript$Finder.atomEndings(IIJ)J
def b_X2_atomEndings_102 (F : Nat) (g_X2_endings : Nat → Int32 → Int32 → Int64 → cM → Option (Int64 × cM)) (t55 : Nat → Int32 → Int32 → Int64 → Int64 → Int32 → cM → Option (Int64 × cM)) : Nat → Int32 → Int32 → Int64 → Int64 → Int32 → cM → Option (Int64 × cM) := fun x0 x1 x2 x3 x5 x8 M =>
  (g_X2_endings x0 x1 (x2 + (1 : Int32)) (-1 : Int64) M).bind fun v1 =>
  (fR v1.2 x0 1 2).bind fun v2 =>
  (fR v1.2 v2 6 10).bind fun v3 =>
  (aI 0 v1.2 v3 x8).bind fun v4 =>
  (f_X2_heavier F v1.1 v4 v1.2).bind fun v5 =>
  t55 x0 x1 x2 x3 (x5 ||| v5.1) (x8 + (1 : Int32)) v5.2
def f_X2_atomEndings_102 (F : Nat) (g_X2_endings : Nat → Int32 → Int32 → Int64 → cM → Option (Int64 × cM)) (k55 : Nat → Int32 → Int32 → Int64 → Int64 → Int32 → cM → Option (Int64 × cM)) : Nat → Int32 → Int32 → Int64 → Int64 → Int32 → cM → Option (Int64 × cM) := fun x0 x1 x2 x3 x5 x8 M => b_X2_atomEndings_102 F g_X2_endings (k55) x0 x1 x2 x3 x5 x8 M
def b_X2_atomEndings_55 (F : Nat) (g_X2_endings : Nat → Int32 → Int32 → Int64 → cM → Option (Int64 × cM)) (t55 : Nat → Int32 → Int32 → Int64 → Int64 → Int32 → cM → Option (Int64 × cM)) (t102 : Nat → Int32 → Int32 → Int64 → Int64 → Int32 → cM → Option (Int64 × cM)) : Nat → Int32 → Int32 → Int64 → Int64 → Int32 → cM → Option (Int64 × cM) := fun x0 x1 x2 x3 x5 x8 M =>
  (fR M x0 1 2).bind fun v1 =>
  (fI M v1 6 11).bind fun v2 =>
  if v2 ≤ x8 then (
  some (x5, M))
  else (
  (fR M x0 1 5).bind fun v3 =>
  (aI 0 M v3 x2).bind fun v4 =>
  if v4 = (-1 : Int32) then (
  if lg_cmp x5 x3 = 0 then (
  some (x5, M))
  else (
  (fR M x0 1 2).bind fun v5 =>
  (fR M v5 6 9).bind fun v6 =>
  (aI 0 M v6 x8).bind fun v7 =>
  (f_X2_stepsOver F x0 v7 x2 M).bind fun v8 =>
  if v8.1 = 0 then (
  t55 x0 x1 x2 x3 x5 (x8 + (1 : Int32)) v8.2)
  else (
  t102 x0 x1 x2 x3 x5 x8 v8.2)))
  else (
  some (x5, M)))
def f_X2_atomEndings_55 (F : Nat) (g_X2_endings : Nat → Int32 → Int32 → Int64 → cM → Option (Int64 × cM)) : Nat → Nat → Int32 → Int32 → Int64 → Int64 → Int32 → cM → Option (Int64 × cM) := fun n => Nat.rec (fun _ _ _ _ _ _ _ => none) (fun _ ih x0 x1 x2 x3 x5 x8 M => b_X2_atomEndings_55 F g_X2_endings (ih) (f_X2_atomEndings_102 F g_X2_endings ih) x0 x1 x2 x3 x5 x8 M) n
def b_X2_atomEndings_0 (F : Nat) (g_X2_endings : Nat → Int32 → Int32 → Int64 → cM → Option (Int64 × cM)) (t55 : Nat → Int32 → Int32 → Int64 → Int64 → Int32 → cM → Option (Int64 × cM)) : Nat → Int32 → Int32 → Int64 → cM → Option (Int64 × cM) := fun x0 x1 x2 x3 M =>
  (fR M x0 1 6).bind fun v1 =>
  (aI 0 M v1 x2).bind fun v2 =>
  if v2 = (-1 : Int32) then (
  t55 x0 x1 x2 x3 (0 : Int64) (0 : Int32) M)
  else (
  (f_X2_stepsOver F x0 v2 x2 M).bind fun v3 =>
  if v3.1 = 0 then (
  t55 x0 x1 x2 x3 (0 : Int64) (0 : Int32) v3.2)
  else (
  (g_X2_endings x0 x1 (x2 + (1 : Int32)) (-1 : Int64) v3.2).bind fun v4 =>
  (fR v4.2 x0 1 2).bind fun v5 =>
  (fR v4.2 v5 6 4).bind fun v6 =>
  (aI 0 v4.2 v6 v2).bind fun v7 =>
  some (v4.1 <<< ((v7 - (4 : Int32)).toInt64 &&& 63), v4.2)))
def f_X2_atomEndings_0 (F : Nat) (g_X2_endings : Nat → Int32 → Int32 → Int64 → cM → Option (Int64 × cM)) : Nat → Int32 → Int32 → Int64 → cM → Option (Int64 × cM) := fun x0 x1 x2 x3 M => b_X2_atomEndings_0 F g_X2_endings (f_X2_atomEndings_55 F g_X2_endings F) x0 x1 x2 x3 M
def f_X2_atomEndings (F : Nat) (g_X2_endings : Nat → Int32 → Int32 → Int64 → cM → Option (Int64 × cM)) : Nat → Int32 → Int32 → Int64 → cM → Option (Int64 × cM) := fun a0 a1 a2 a3 M => if isC M a0 1 = true then f_X2_atomEndings_0 F g_X2_endings a0 a1 a2 a3 M else none
-- PatchbayScript$Finder.constEndings(II)J
def b_X2_constEndings_65 (F : Nat) (g_X2_endings : Nat → Int32 → Int32 → Int64 → cM → Option (Int64 × cM)) (t8 : Nat → Int32 → Int32 → Int64 → Int32 → Int32 → cM → Option (Int64 × cM)) : Nat → Int32 → Int32 → Int64 → Int32 → Int32 → cM → Option (Int64 × cM) := fun x0 x1 x2 x3 x5 x6 M =>
  (g_X2_endings x0 x1 (x2 + (1 : Int32)) (-1 : Int64) M).bind fun v1 =>
  (f_X0_weightOfConst F x6 v1.2).bind fun v2 =>
  let v3 : Int64 := x3 ||| (v1.1 <<< ((v2.1 - (4 : Int32)).toInt64 &&& 63))
  t8 x0 x1 x2 v3 x5 (x6 + (1 : Int32)) v2.2
def f_X2_constEndings_65 (F : Nat) (g_X2_endings : Nat → Int32 → Int32 → Int64 → cM → Option (Int64 × cM)) (k8 : Nat → Int32 → Int32 → Int64 → Int32 → Int32 → cM → Option (Int64 × cM)) : Nat → Int32 → Int32 → Int64 → Int32 → Int32 → cM → Option (Int64 × cM) := fun x0 x1 x2 x3 x5 x6 M => b_X2_constEndings_65 F g_X2_endings (k8) x0 x1 x2 x3 x5 x6 M
def b_X2_constEndings_8 (F : Nat) (g_X2_endings : Nat → Int32 → Int32 → Int64 → cM → Option (Int64 × cM)) (t8 : Nat → Int32 → Int32 → Int64 → Int32 → Int32 → cM → Option (Int64 × cM)) (t65 : Nat → Int32 → Int32 → Int64 → Int32 → Int32 → cM → Option (Int64 × cM)) : Nat → Int32 → Int32 → Int64 → Int32 → Int32 → cM → Option (Int64 × cM) := fun x0 x1 x2 x3 x5 x6 M =>
  if (4 : Int32) < x6 then (
  some (x3, M))
  else (
  (f_X2_stepOverSign F x0 x2 x6 M).bind fun v1 =>
  if v1.1 = 0 then (
  some (x3, v1.2))
  else (
  (f_X0_withSign F x5 (x6 - (1 : Int32)) v1.1 v1.2).bind fun v2 =>
  (fR v2.2 x0 1 5).bind fun v3 =>
  (aI 0 v2.2 v3 x2).bind fun v4 =>
  if v4 = (-1 : Int32) then (
  t65 x0 x1 x2 x3 v2.1 x6 v2.2)
  else (
  (fR v2.2 x0 1 5).bind fun v5 =>
  (aI 0 v2.2 v5 x2).bind fun v6 =>
  if v6 = v2.1 then (
  t65 x0 x1 x2 x3 v2.1 x6 v2.2)
  else (
  t8 x0 x1 x2 x3 v2.1 (x6 + (1 : Int32)) v2.2))))
def f_X2_constEndings_8 (F : Nat) (g_X2_endings : Nat → Int32 → Int32 → Int64 → cM → Option (Int64 × cM)) : Nat → Nat → Int32 → Int32 → Int64 → Int32 → Int32 → cM → Option (Int64 × cM) := fun n => Nat.rec (fun _ _ _ _ _ _ _ => none) (fun _ ih x0 x1 x2 x3 x5 x6 M => b_X2_constEndings_8 F g_X2_endings (ih) (f_X2_constEndings_65 F g_X2_endings ih) x0 x1 x2 x3 x5 x6 M) n
def b_X2_constEndings_0 (F : Nat) (g_X2_endings : Nat → Int32 → Int32 → Int64 → cM → Option (Int64 × cM)) (t8 : Nat → Int32 → Int32 → Int64 → Int32 → Int32 → cM → Option (Int64 × cM)) : Nat → Int32 → Int32 → cM → Option (Int64 × cM) := fun x0 x1 x2 M =>
  t8 x0 x1 x2 (0 : Int64) (0 : Int32) (1 : Int32) M
def f_X2_constEndings_0 (F : Nat) (g_X2_endings : Nat → Int32 → Int32 → Int64 → cM → Option (Int64 × cM)) : Nat → Int32 → Int32 → cM → Option (Int64 × cM) := fun x0 x1 x2 M => b_X2_constEndings_0 F g_X2_endings (f_X2_constEndings_8 F g_X2_endings F) x0 x1 x2 M
def f_X2_constEndings (F : Nat) (g_X2_endings : Nat → Int32 → Int32 → Int64 → cM → Option (Int64 × cM)) : Nat → Int32 → Int32 → cM → Option (Int64 × cM) := fun a0 a1 a2 M => if isC M a0 1 = true then f_X2_constEndings_0 F g_X2_endings a0 a1 a2 M else none
-- PatchbayScript$Finder.endings(IIJ)J
def b_X2_endings_122 (F : Nat) (g_X2_constEndings : Nat → Int32 → Int32 → cM → Option (Int64 × cM)) (g_X2_atomEndings : Nat → Int32 → Int32 → Int64 → cM → Option (Int64 × cM)) : Nat → Int32 → Int32 → Int64 → Int64 → Int32 → cM → Option (Int64 × cM) := fun x0 x1 x2 x6 x8 x10 M =>
  (fR M x0 1 9).bind fun v1 =>
  (aJ M v1 x10).bind fun v2 =>
  if lg_cmp v2 x8 = 0 then (
  (fR M x0 1 10).bind fun v3 =>
  (aJ M v3 x10).bind fun v4 =>
  some (v4, M))
  else (
  (g_X2_constEndings x0 x1 x2 M).bind fun v5 =>
  (g_X2_atomEndings x0 x1 x2 x6 v5.2).bind fun v6 =>
  (fR v6.2 x0 1 9).bind fun v7 =>
  (sJ v6.2 v7 x10 x8).bind fun M8 =>
  (fR M8 x0 1 10).bind fun v9 =>
  (sJ M8 v9 x10 (v5.1 ||| v6.1)).bind fun M10 =>
  (fR M10 x0 1 10).bind fun v11 =>
  (aJ M10 v11 x10).bind fun v12 =>
  some (v12, M10))
def f_X2_endings_122 (F : Nat) (g_X2_constEndings : Nat → Int32 → Int32 → cM → Option (Int64 × cM)) (g_X2_atomEndings : Nat → Int32 → Int32 → Int64 → cM → Option (Int64 × cM)) : Nat → Int32 → Int32 → Int64 → Int64 → Int32 → cM → Option (Int64 × cM) := fun x0 x1 x2 x6 x8 x10 M => b_X2_endings_122 F g_X2_constEndings g_X2_atomEndings x0 x1 x2 x6 x8 x10 M
def b_X2_endings_16 (F : Nat) (g_X2_constEndings : Nat → Int32 → Int32 → cM → Option (Int64 × cM)) (g_X2_atomEndings : Nat → Int32 → Int32 → Int64 → cM → Option (Int64 × cM)) (t16 : Nat → Int32 → Int32 → Int64 → Int32 → Int64 → Int32 → cM → Option (Int64 × cM)) (t122 : Nat → Int32 → Int32 → Int64 → Int64 → Int32 → cM → Option (Int64 × cM)) : Nat → Int32 → Int32 → Int64 → Int32 → Int64 → Int32 → cM → Option (Int64 × cM) := fun x0 x1 x2 x3 x5 x6 x8 M =>
  (fR M x0 1 2).bind fun v1 =>
  (fI M v1 6 2).bind fun v2 =>
  if v2 ≤ x8 then (
  if lg_cmp (x6 &&& x3) (0 : Int64) = 0 then (
  some (x6 &&& x3, M))
  else (
  (fR M x0 1 2).bind fun v3 =>
  (fI M v3 6 2).bind fun v4 =>
  if v4 = (1 : Int32) then (
  some (x6 &&& x3, M))
  else (
  if x1 ≤ x2 then (
  some (x6 &&& x3, M))
  else (
  if x2 < (4 : Int32) then (
  (f_X2_keyOf F x0 x5 x2 M).bind fun v5 =>
  t122 x0 x1 x2 x6 v5.1 (((v5.1 * (-7046029254386353131 : Int64)).toUInt64 >>> ((53 : Int32).toInt64.toUInt64 &&& Int64.toUInt64 63)).toInt64).toInt32 v5.2)
  else (
  some (x6 &&& x3, M))))))
  else (
  (fR M x0 1 8).bind fun v6 =>
  (fR M x0 1 12).bind fun v7 =>
  (aI 0 M v7 ((x2 * (4 : Int32)) + x8)).bind fun v8 =>
  (aJ M v6 ((((x5 * (4 : Int32)) + x8) * (21 : Int32)) + v8)).bind fun v9 =>
  t16 x0 x1 x2 x3 x5 (x6 &&& v9) (x8 + (1 : Int32)) M)
def f_X2_endings_16 (F : Nat) (g_X2_constEndings : Nat → Int32 → Int32 → cM → Option (Int64 × cM)) (g_X2_atomEndings : Nat → Int32 → Int32 → Int64 → cM → Option (Int64 × cM)) : Nat → Nat → Int32 → Int32 → Int64 → Int32 → Int64 → Int32 → cM → Option (Int64 × cM) := fun n => Nat.rec (fun _ _ _ _ _ _ _ _ => none) (fun _ ih x0 x1 x2 x3 x5 x6 x8 M => b_X2_endings_16 F g_X2_constEndings g_X2_atomEndings (ih) (f_X2_endings_122 F g_X2_constEndings g_X2_atomEndings) x0 x1 x2 x3 x5 x6 x8 M) n
def b_X2_endings_0 (F : Nat) (g_X2_constEndings : Nat → Int32 → Int32 → cM → Option (Int64 × cM)) (g_X2_atomEndings : Nat → Int32 → Int32 → Int64 → cM → Option (Int64 × cM)) (t16 : Nat → Int32 → Int32 → Int64 → Int32 → Int64 → Int32 → cM → Option (Int64 × cM)) : Nat → Int32 → Int32 → Int64 → cM → Option (Int64 × cM) := fun x0 x1 x2 x3 M =>
  (f_X2_layerOf F x0 x1 x2 M).bind fun v1 =>
  t16 x0 x1 x2 x3 v1.1 (-1 : Int64) (0 : Int32) v1.2
def f_X2_endings_0 (F : Nat) (g_X2_constEndings : Nat → Int32 → Int32 → cM → Option (Int64 × cM)) (g_X2_atomEndings : Nat → Int32 → Int32 → Int64 → cM → Option (Int64 × cM)) : Nat → Int32 → Int32 → Int64 → cM → Option (Int64 × cM) := fun x0 x1 x2 x3 M => b_X2_endings_0 F g_X2_constEndings g_X2_atomEndings (f_X2_endings_16 F g_X2_constEndings g_X2_atomEndings F) x0 x1 x2 x3 M
def f_X2_endings (F : Nat) (g_X2_constEndings : Nat → Int32 → Int32 → cM → Option (Int64 × cM)) (g_X2_atomEndings : Nat → Int32 → Int32 → Int64 → cM → Option (Int64 × cM)) : Nat → Int32 → Int32 → Int64 → cM → Option (Int64 × cM) := fun a0 a1 a2 a3 M => if isC M a0 1 = true then f_X2_endings_0 F g_X2_constEndings g_X2_atomEndings a0 a1 a2 a3 M else none
def r_X2_endings (F : Nat) : Nat → Nat → Int32 → Int32 → Int64 → cM → Option (Int64 × cM) := fun n => Nat.rec (fun _ _ _ _ _ => none) (fun _ ih => f_X2_endings F (f_X2_constEndings F ih) (f_X2_atomEndings F ih)) n
-- PatchbayScript$Program.setRow([II)V
def b_X6_setRow_11 (F : Nat) (t11 : Nat → Nat → Int32 → cM → Option (cM)) : Nat → Nat → Int32 → cM → Option (cM) := fun x0 x1 x3 M =>
  (fI M x0 5 1).bind fun v1 =>
  if v1 ≤ x3 then (
  some M)
  else (
  (aN M x1).bind fun v2 =>
  if v2 ≤ x3 then (
  some M)
  else (
  (fR M x0 5 0).bind fun v3 =>
  (aI 0 M x1 x3).bind fun v4 =>
  (sI 0 M v3 x3 v4).bind fun M5 =>
  t11 x0 x1 (x3 + (1 : Int32)) M5))
def f_X6_setRow_11 (F : Nat) : Nat → Nat → Nat → Int32 → cM → Option (cM) := fun n => Nat.rec (fun _ _ _ _ => none) (fun _ ih x0 x1 x3 M => b_X6_setRow_11 F (ih) x0 x1 x3 M) n
def b_X6_setRow_0 (F : Nat) (t11 : Nat → Nat → Int32 → cM → Option (cM)) : Nat → Nat → Int32 → cM → Option (cM) := fun x0 x1 x2 M =>
  let v1 : Int32 := mnI x2 (4 : Int32)
  (pF M x0 5 1 (.int v1)).bind fun M2 =>
  t11 x0 x1 (0 : Int32) M2
def f_X6_setRow_0 (F : Nat) : Nat → Nat → Int32 → cM → Option (cM) := fun x0 x1 x2 M => b_X6_setRow_0 F (f_X6_setRow_11 F F) x0 x1 x2 M
def f_X6_setRow (F : Nat) : Nat → Nat → Int32 → cM → Option (cM) := fun a0 a1 a2 M => if isC M a0 5 = true then f_X6_setRow_0 F a0 a1 a2 M else none
-- PatchbayScript$Finder.walkConsts(III)V
def b_X2_walkConsts_69 (F : Nat) (g_X2_walk : Nat → Int32 → Int32 → Int32 → cM → Option (cM)) (t6 : Nat → Int32 → Int32 → Int32 → Int32 → Int32 → cM → Option (cM)) : Nat → Int32 → Int32 → Int32 → Int32 → Int32 → cM → Option (cM) := fun x0 x1 x2 x3 x4 x5 M =>
  (fR M x0 1 13).bind fun v1 =>
  (sI 0 M v1 x2 x4).bind fun M2 =>
  (f_X0_weightOfConst F x5 M2).bind fun v3 =>
  (g_X2_walk x0 x1 (x2 + (1 : Int32)) (x3 - v3.1) v3.2).bind fun v4 =>
  t6 x0 x1 x2 x3 x4 (x5 + (1 : Int32)) v4
def f_X2_walkConsts_69 (F : Nat) (g_X2_walk : Nat → Int32 → Int32 → Int32 → cM → Option (cM)) (k6 : Nat → Int32 → Int32 → Int32 → Int32 → Int32 → cM → Option (cM)) : Nat → Int32 → Int32 → Int32 → Int32 → Int32 → cM → Option (cM) := fun x0 x1 x2 x3 x4 x5 M => b_X2_walkConsts_69 F g_X2_walk (k6) x0 x1 x2 x3 x4 x5 M
def b_X2_walkConsts_6 (F : Nat) (g_X2_walk : Nat → Int32 → Int32 → Int32 → cM → Option (cM)) (t6 : Nat → Int32 → Int32 → Int32 → Int32 → Int32 → cM → Option (cM)) (t69 : Nat → Int32 → Int32 → Int32 → Int32 → Int32 → cM → Option (cM)) : Nat → Int32 → Int32 → Int32 → Int32 → Int32 → cM → Option (cM) := fun x0 x1 x2 x3 x4 x5 M =>
  if (4 : Int32) < x5 then (
  some M)
  else (
  (fI M x0 1 1).bind fun v1 =>
  if (5 : Int32) ≤ v1 then (
  some M)
  else (
  (f_X2_stepOverSign F x0 x2 x5 M).bind fun v2 =>
  if v2.1 = 0 then (
  some v2.2)
  else (
  (f_X0_withSign F x4 (x5 - (1 : Int32)) v2.1 v2.2).bind fun v3 =>
  (fR v3.2 x0 1 5).bind fun v4 =>
  (aI 0 v3.2 v4 x2).bind fun v5 =>
  if v5 = (-1 : Int32) then (
  t69 x0 x1 x2 x3 v3.1 x5 v3.2)
  else (
  (fR v3.2 x0 1 5).bind fun v6 =>
  (aI 0 v3.2 v6 x2).bind fun v7 =>
  if v7 = v3.1 then (
  t69 x0 x1 x2 x3 v3.1 x5 v3.2)
  else (
  t6 x0 x1 x2 x3 v3.1 (x5 + (1 : Int32)) v3.2)))))
def f_X2_walkConsts_6 (F : Nat) (g_X2_walk : Nat → Int32 → Int32 → Int32 → cM → Option (cM)) : Nat → Nat → Int32 → Int32 → Int32 → Int32 → Int32 → cM → Option (cM) := fun n => Nat.rec (fun _ _ _ _ _ _ _ => none) (fun _ ih x0 x1 x2 x3 x4 x5 M => b_X2_walkConsts_6 F g_X2_walk (ih) (f_X2_walkConsts_69 F g_X2_walk ih) x0 x1 x2 x3 x4 x5 M) n
def b_X2_walkConsts_0 (F : Nat) (g_X2_walk : Nat → Int32 → Int32 → Int32 → cM → Option (cM)) (t6 : Nat → Int32 → Int32 → Int32 → Int32 → Int32 → cM → Option (cM)) : Nat → Int32 → Int32 → Int32 → cM → Option (cM) := fun x0 x1 x2 x3 M =>
  t6 x0 x1 x2 x3 (0 : Int32) (1 : Int32) M
def f_X2_walkConsts_0 (F : Nat) (g_X2_walk : Nat → Int32 → Int32 → Int32 → cM → Option (cM)) : Nat → Int32 → Int32 → Int32 → cM → Option (cM) := fun x0 x1 x2 x3 M => b_X2_walkConsts_0 F g_X2_walk (f_X2_walkConsts_6 F g_X2_walk F) x0 x1 x2 x3 M
def f_X2_walkConsts (F : Nat) (g_X2_walk : Nat → Int32 → Int32 → Int32 → cM → Option (cM)) : Nat → Int32 → Int32 → Int32 → cM → Option (cM) := fun a0 a1 a2 a3 M => if isC M a0 1 = true then f_X2_walkConsts_0 F g_X2_walk a0 a1 a2 a3 M else none
-- PatchbayScript$Finder.walk(III)V
def b_X2_walk_61 (F : Nat) (g_X2_walkConsts : Nat → Int32 → Int32 → Int32 → cM → Option (cM)) (g_X2_walk : Nat → Int32 → Int32 → Int32 → cM → Option (cM)) : Nat → Int32 → cM → Option (cM) := fun x0 x1 M =>
  (fR M x0 1 0).bind fun v1 =>
  (fI M x0 1 1).bind fun v2 =>
  (aR M v1 v2).bind fun v3 =>
  (fR M x0 1 13).bind fun v4 =>
  (f_X6_setRow F v3 v4 x1 M).bind fun v5 =>
  (fI v5 x0 1 1).bind fun v6 =>
  (pF v5 x0 1 1 (.int (v6 + (1 : Int32)))).bind fun M7 =>
  some M7
def f_X2_walk_61 (F : Nat) (g_X2_walkConsts : Nat → Int32 → Int32 → Int32 → cM → Option (cM)) (g_X2_walk : Nat → Int32 → Int32 → Int32 → cM → Option (cM)) : Nat → Int32 → cM → Option (cM) := fun x0 x1 M => b_X2_walk_61 F g_X2_walkConsts g_X2_walk x0 x1 M
def b_X2_walk_148 (F : Nat) (g_X2_walkConsts : Nat → Int32 → Int32 → Int32 → cM → Option (cM)) (g_X2_walk : Nat → Int32 → Int32 → Int32 → cM → Option (cM)) (t99 : Nat → Int32 → Int32 → Int32 → Int32 → cM → Option (cM)) : Nat → Int32 → Int32 → Int32 → Int32 → cM → Option (cM) := fun x0 x1 x2 x3 x5 M =>
  (f_X2_stepsOver F x0 x5 x2 M).bind fun v1 =>
  if v1.1 = 0 then (
  t99 x0 x1 x2 x3 (x5 + (1 : Int32)) v1.2)
  else (
  (fR v1.2 x0 1 13).bind fun v2 =>
  (fR v1.2 x0 1 2).bind fun v3 =>
  (fR v1.2 v3 6 3).bind fun v4 =>
  (aI 0 v1.2 v4 x5).bind fun v5 =>
  (sI 0 v1.2 v2 x2 v5).bind fun M6 =>
  (fR M6 x0 1 2).bind fun v7 =>
  (fR M6 v7 6 4).bind fun v8 =>
  (aI 0 M6 v8 x5).bind fun v9 =>
  (g_X2_walk x0 x1 (x2 + (1 : Int32)) (x3 - v9) M6).bind fun v10 =>
  t99 x0 x1 x2 x3 (x5 + (1 : Int32)) v10)
def f_X2_walk_148 (F : Nat) (g_X2_walkConsts : Nat → Int32 → Int32 → Int32 → cM → Option (cM)) (g_X2_walk : Nat → Int32 → Int32 → Int32 → cM → Option (cM)) (k99 : Nat → Int32 → Int32 → Int32 → Int32 → cM → Option (cM)) : Nat → Int32 → Int32 → Int32 → Int32 → cM → Option (cM) := fun x0 x1 x2 x3 x5 M => b_X2_walk_148 F g_X2_walkConsts g_X2_walk (k99) x0 x1 x2 x3 x5 M
def b_X2_walk_99 (F : Nat) (g_X2_walkConsts : Nat → Int32 → Int32 → Int32 → cM → Option (cM)) (g_X2_walk : Nat → Int32 → Int32 → Int32 → cM → Option (cM)) (t99 : Nat → Int32 → Int32 → Int32 → Int32 → cM → Option (cM)) (t148 : Nat → Int32 → Int32 → Int32 → Int32 → cM → Option (cM)) : Nat → Int32 → Int32 → Int32 → Int32 → cM → Option (cM) := fun x0 x1 x2 x3 x5 M =>
  (fR M x0 1 2).bind fun v1 =>
  (fI M v1 6 7).bind fun v2 =>
  if v2 ≤ x5 then (
  some M)
  else (
  (fI M x0 1 1).bind fun v3 =>
  if (5 : Int32) ≤ v3 then (
  some M)
  else (
  (fR M x0 1 5).bind fun v4 =>
  (aI 0 M v4 x2).bind fun v5 =>
  if v5 = (-1 : Int32) then (
  t148 x0 x1 x2 x3 x5 M)
  else (
  (fR M x0 1 5).bind fun v6 =>
  (aI 0 M v6 x2).bind fun v7 =>
  (fR M x0 1 2).bind fun v8 =>
  (fR M v8 6 3).bind fun v9 =>
  (aI 0 M v9 x5).bind fun v10 =>
  if v7 = v10 then (
  t148 x0 x1 x2 x3 x5 M)
  else (
  t99 x0 x1 x2 x3 (x5 + (1 : Int32)) M))))
def f_X2_walk_99 (F : Nat) (g_X2_walkConsts : Nat → Int32 → Int32 → Int32 → cM → Option (cM)) (g_X2_walk : Nat → Int32 → Int32 → Int32 → cM → Option (cM)) : Nat → Nat → Int32 → Int32 → Int32 → Int32 → cM → Option (cM) := fun n => Nat.rec (fun _ _ _ _ _ _ => none) (fun _ ih x0 x1 x2 x3 x5 M => b_X2_walk_99 F g_X2_walkConsts g_X2_walk (ih) (f_X2_walk_148 F g_X2_walkConsts g_X2_walk ih) x0 x1 x2 x3 x5 M) n
def b_X2_walk_30 (F : Nat) (g_X2_walkConsts : Nat → Int32 → Int32 → Int32 → cM → Option (cM)) (g_X2_walk : Nat → Int32 → Int32 → Int32 → cM → Option (cM)) (t61 : Nat → Int32 → cM → Option (cM)) (t99 : Nat → Int32 → Int32 → Int32 → Int32 → cM → Option (cM)) : Nat → Int32 → Int32 → Int32 → Int32 → cM → Option (cM) := fun x0 x1 x2 x3 x4 M =>
  (r_X2_endings F 8 x0 x1 x2 ((1 : Int64) <<< (x4.toInt64 &&& 63)) M).bind fun v1 =>
  if lg_cmp ((v1.1 >>> (x4.toInt64 &&& 63)) &&& (1 : Int64)) (0 : Int64) = 0 then (
  some v1.2)
  else (
  if x1 ≤ x2 then (
  t61 x0 x1 v1.2)
  else (
  if x2 < (4 : Int32) then (
  (g_X2_walkConsts x0 x1 x2 x3 v1.2).bind fun v2 =>
  t99 x0 x1 x2 x3 (0 : Int32) v2)
  else (
  t61 x0 x1 v1.2)))
def f_X2_walk_30 (F : Nat) (g_X2_walkConsts : Nat → Int32 → Int32 → Int32 → cM → Option (cM)) (g_X2_walk : Nat → Int32 → Int32 → Int32 → cM → Option (cM)) : Nat → Int32 → Int32 → Int32 → Int32 → cM → Option (cM) := fun x0 x1 x2 x3 x4 M => b_X2_walk_30 F g_X2_walkConsts g_X2_walk (f_X2_walk_61 F g_X2_walkConsts g_X2_walk) (f_X2_walk_99 F g_X2_walkConsts g_X2_walk F) x0 x1 x2 x3 x4 M
def b_X2_walk_0 (F : Nat) (g_X2_walkConsts : Nat → Int32 → Int32 → Int32 → cM → Option (cM)) (g_X2_walk : Nat → Int32 → Int32 → Int32 → cM → Option (cM)) (t30 : Nat → Int32 → Int32 → Int32 → Int32 → cM → Option (cM)) : Nat → Int32 → Int32 → Int32 → cM → Option (cM) := fun x0 x1 x2 x3 M =>
  let v1 : Int32 := x3 - ((x1 - x2) * (4 : Int32))
  (fI M x0 1 1).bind fun v2 =>
  if (5 : Int32) ≤ v2 then (
  some M)
  else (
  if v1 < 0 then (
  some M)
  else (
  if v1 ≤ (48 : Int32) then (
  t30 x0 x1 x2 x3 v1 M)
  else (
  some M)))
def f_X2_walk_0 (F : Nat) (g_X2_walkConsts : Nat → Int32 → Int32 → Int32 → cM → Option (cM)) (g_X2_walk : Nat → Int32 → Int32 → Int32 → cM → Option (cM)) : Nat → Int32 → Int32 → Int32 → cM → Option (cM) := fun x0 x1 x2 x3 M => b_X2_walk_0 F g_X2_walkConsts g_X2_walk (f_X2_walk_30 F g_X2_walkConsts g_X2_walk) x0 x1 x2 x3 M
def f_X2_walk (F : Nat) (g_X2_walkConsts : Nat → Int32 → Int32 → Int32 → cM → Option (cM)) (g_X2_walk : Nat → Int32 → Int32 → Int32 → cM → Option (cM)) : Nat → Int32 → Int32 → Int32 → cM → Option (cM) := fun a0 a1 a2 a3 M => if isC M a0 1 = true then f_X2_walk_0 F g_X2_walkConsts g_X2_walk a0 a1 a2 a3 M else none
def r_X2_walk (F : Nat) : Nat → Nat → Int32 → Int32 → Int32 → cM → Option (cM) := fun n => Nat.rec (fun _ _ _ _ _ => none) (fun _ ih => f_X2_walk F (f_X2_walkConsts F ih) ih) n
-- PatchbayScript$Finder.find(I)V
def b_X2_find_77 (F : Nat) (t61 : Nat → Int32 → cM → Option (cM)) (t77 : Nat → Int32 → Int32 → cM → Option (cM)) : Nat → Int32 → Int32 → cM → Option (cM) := fun x0 x2 x3 M =>
  if (4 : Int32) < x3 then (
  t61 x0 (x2 + (1 : Int32)) M)
  else (
  (fI M x0 1 1).bind fun v1 =>
  if (5 : Int32) ≤ v1 then (
  t61 x0 (x2 + (1 : Int32)) M)
  else (
  (r_X2_walk F 8 x0 x3 (0 : Int32) x2 M).bind fun v2 =>
  t77 x0 x2 (x3 + (1 : Int32)) v2))
def f_X2_find_77 (F : Nat) (k61 : Nat → Int32 → cM → Option (cM)) : Nat → Nat → Int32 → Int32 → cM → Option (cM) := fun n => Nat.rec (fun _ _ _ _ => none) (fun _ ih x0 x2 x3 M => b_X2_find_77 F (k61) (ih) x0 x2 x3 M) n
def b_X2_find_61 (F : Nat) (t77 : Nat → Int32 → Int32 → cM → Option (cM)) : Nat → Int32 → cM → Option (cM) := fun x0 x2 M =>
  if (64 : Int32) < x2 then (
  some M)
  else (
  (fI M x0 1 1).bind fun v1 =>
  if (5 : Int32) ≤ v1 then (
  some M)
  else (
  t77 x0 x2 (1 : Int32) M))
def f_X2_find_61 (F : Nat) : Nat → Nat → Int32 → cM → Option (cM) := fun n => Nat.rec (fun _ _ _ => none) (fun _ ih x0 x2 M => b_X2_find_61 F (f_X2_find_77 F ih F) x0 x2 M) n
def b_X2_find_10 (F : Nat) (t10 : Nat → Int32 → cM → Option (cM)) (t61 : Nat → Int32 → cM → Option (cM)) : Nat → Int32 → cM → Option (cM) := fun x0 x2 M =>
  if (4 : Int32) ≤ x2 then (
  (f_X2_gatherWays F x0 M).bind fun v1 =>
  (fJ v1 x0 1 11).bind fun v2 =>
  (pF v1 x0 1 11 (.long (v2 + (1 : Int64)))).bind fun M3 =>
  (pF M3 x0 1 1 (.int (0 : Int32))).bind fun M4 =>
  t61 x0 (4 : Int32) M4)
  else (
  (fR M x0 1 6).bind fun v5 =>
  (fR M x0 1 2).bind fun v6 =>
  (fR M x0 1 5).bind fun v7 =>
  (aI 0 M v7 x2).bind fun v8 =>
  (f_X8_indexOf F v6 v8 M).bind fun v9 =>
  (sI 0 v9.2 v5 x2 v9.1).bind fun M10 =>
  t10 x0 (x2 + (1 : Int32)) M10)
def f_X2_find_10 (F : Nat) : Nat → Nat → Int32 → cM → Option (cM) := fun n => Nat.rec (fun _ _ _ => none) (fun _ ih x0 x2 M => b_X2_find_10 F (ih) (f_X2_find_61 F F) x0 x2 M) n
def b_X2_find_0 (F : Nat) (t10 : Nat → Int32 → cM → Option (cM)) : Nat → Int32 → cM → Option (cM) := fun x0 x1 M =>
  (fR M x0 1 2).bind fun v1 =>
  (f_X8_gather F v1 x1 M).bind fun v2 =>
  t10 x0 (0 : Int32) v2
def f_X2_find_0 (F : Nat) : Nat → Int32 → cM → Option (cM) := fun x0 x1 M => b_X2_find_0 F (f_X2_find_10 F F) x0 x1 M
def f_X2_find (F : Nat) : Nat → Int32 → cM → Option (cM) := fun a0 a1 M => if isC M a0 1 = true then f_X2_find_0 F a0 a1 M else none
-- PatchbayScript$Learner.allOf(LPatchbayScript$Task;)I
def b_X3_allOf_0 (F : Nat) : Nat → cM → Option (Int32 × cM) := fun x0 M =>
  (fI M x0 7 3).bind fun v1 =>
  let v2 : Int32 := mnI v1 (4 : Int32)
  some (((1 : Int32) <<< (v2 &&& 31)) - (1 : Int32), M)
def f_X3_allOf_0 (F : Nat) : Nat → cM → Option (Int32 × cM) := fun x0 M => b_X3_allOf_0 F x0 M
def f_X3_allOf (F : Nat) : Nat → cM → Option (Int32 × cM) := fun a0 M => f_X3_allOf_0 F a0 M
-- PatchbayScript$Program.set(LPatchbayScript$Program;)V
def b_X6_set_10 (F : Nat) (t10 : Nat → Nat → Int32 → cM → Option (cM)) : Nat → Nat → Int32 → cM → Option (cM) := fun x0 x1 x2 M =>
  if (4 : Int32) ≤ x2 then (
  some M)
  else (
  (fR M x0 5 0).bind fun v1 =>
  (fR M x1 5 0).bind fun v2 =>
  (aI 0 M v2 x2).bind fun v3 =>
  (sI 0 M v1 x2 v3).bind fun M4 =>
  t10 x0 x1 (x2 + (1 : Int32)) M4)
def f_X6_set_10 (F : Nat) : Nat → Nat → Nat → Int32 → cM → Option (cM) := fun n => Nat.rec (fun _ _ _ _ => none) (fun _ ih x0 x1 x2 M => b_X6_set_10 F (ih) x0 x1 x2 M) n
def b_X6_set_0 (F : Nat) (t10 : Nat → Nat → Int32 → cM → Option (cM)) : Nat → Nat → cM → Option (cM) := fun x0 x1 M =>
  (fI M x1 5 1).bind fun v1 =>
  (pF M x0 5 1 (.int v1)).bind fun M2 =>
  t10 x0 x1 (0 : Int32) M2
def f_X6_set_0 (F : Nat) : Nat → Nat → cM → Option (cM) := fun x0 x1 M => b_X6_set_0 F (f_X6_set_10 F F) x0 x1 M
def f_X6_set (F : Nat) : Nat → Nat → cM → Option (cM) := fun a0 a1 M => if isC M a0 5 = true then f_X6_set_0 F a0 a1 M else none
-- PatchbayScript$Learner.findBest(LPatchbayScript$Task;)V
def b_X3_findBest_47 (F : Nat) (t47 : Nat → Nat → Int32 → cM → Option (cM)) : Nat → Nat → Int32 → cM → Option (cM) := fun x0 x1 x2 M =>
  (fR M x0 2 0).bind fun v1 =>
  (fI M v1 1 1).bind fun v2 =>
  if v2 ≤ x2 then (
  some M)
  else (
  if (5 : Int32) ≤ x2 then (
  some M)
  else (
  (fR M x1 7 10).bind fun v3 =>
  (aR M v3 x2).bind fun v4 =>
  (fR M x0 2 0).bind fun v5 =>
  (fR M v5 1 0).bind fun v6 =>
  (aR M v6 x2).bind fun v7 =>
  (f_X6_set F v4 v7 M).bind fun v8 =>
  (pF v8 x1 7 11 (.int (x2 + (1 : Int32)))).bind fun M9 =>
  t47 x0 x1 (x2 + (1 : Int32)) M9))
def f_X3_findBest_47 (F : Nat) : Nat → Nat → Nat → Int32 → cM → Option (cM) := fun n => Nat.rec (fun _ _ _ _ => none) (fun _ ih x0 x1 x2 M => b_X3_findBest_47 F (ih) x0 x1 x2 M) n
def b_X3_findBest_0 (F : Nat) (t47 : Nat → Nat → Int32 → cM → Option (cM)) : Nat → Nat → cM → Option (cM) := fun x0 x1 M =>
  (fI M x1 7 12).bind fun v1 =>
  if v1 = 0 then (
  (pF M x1 7 12 (.int (1 : Int32))).bind fun M2 =>
  (pF M2 x1 7 11 (.int (0 : Int32))).bind fun M3 =>
  (fI M3 x1 7 3).bind fun v4 =>
  if v4 = 0 then (
  some M3)
  else (
  (fR M3 x0 2 0).bind fun v5 =>
  (f_X2_lookAt F v5 x1 M3).bind fun v6 =>
  (fR v6 x0 2 0).bind fun v7 =>
  (f_X3_allOf F x1 v6).bind fun v8 =>
  (f_X2_find F v7 v8.1 v8.2).bind fun v9 =>
  t47 x0 x1 (0 : Int32) v9))
  else (
  some M)
def f_X3_findBest_0 (F : Nat) : Nat → Nat → cM → Option (cM) := fun x0 x1 M => b_X3_findBest_0 F (f_X3_findBest_47 F F) x0 x1 M
def f_X3_findBest (F : Nat) : Nat → Nat → cM → Option (cM) := fun a0 a1 M => if isC M a0 2 = true then f_X3_findBest_0 F a0 a1 M else none
-- PatchbayScript$Program.makes(LPatchbayScript$Text;LPatchbayScript$Text;)Z
def b_X6_makes_9 (F : Nat) (t9 : Nat → Nat → Nat → Int32 → Int32 → cM → Option (Int32 × cM)) : Nat → Nat → Nat → Int32 → Int32 → cM → Option (Int32 × cM) := fun x0 x1 x2 x3 x4 M =>
  (fI M x0 5 1).bind fun v1 =>
  if v1 ≤ x4 then (
  if x3 = 0 ∨ x3 = 1 then some (x3, M) else none)
  else (
  if (4 : Int32) ≤ x4 then (
  if x3 = 0 ∨ x3 = 1 then some (x3, M) else none)
  else (
  if x3 = 0 then (
  if x3 = 0 ∨ x3 = 1 then some (x3, M) else none)
  else (
  (fR M x0 5 0).bind fun v2 =>
  (aI 0 M v2 x4).bind fun v3 =>
  (f_X0_kindOf F v3 M).bind fun v4 =>
  if v4.1 = (0 : Int32) then (
  (fR v4.2 x0 5 0).bind fun v11 =>
  (aI 0 v4.2 v11 x4).bind fun v12 =>
  (f_X0_makesConst F v12 x2 v4.2).bind fun v13 =>
  t9 x0 x1 x2 v13.1 (x4 + (1 : Int32)) v13.2)
  else (
  if v4.1 = (1 : Int32) then (
  (fR v4.2 x0 5 0).bind fun v8 =>
  (aI 0 v4.2 v8 x4).bind fun v9 =>
  (f_X0_makesCut F v9 x1 x2 v4.2).bind fun v10 =>
  t9 x0 x1 x2 v10.1 (x4 + (1 : Int32)) v10.2)
  else (
  (fR v4.2 x0 5 0).bind fun v5 =>
  (aI 0 v4.2 v5 x4).bind fun v6 =>
  (f_X0_makesEach F v6 x1 x2 v4.2).bind fun v7 =>
  t9 x0 x1 x2 v7.1 (x4 + (1 : Int32)) v7.2)))))
def f_X6_makes_9 (F : Nat) : Nat → Nat → Nat → Nat → Int32 → Int32 → cM → Option (Int32 × cM) := fun n => Nat.rec (fun _ _ _ _ _ _ => none) (fun _ ih x0 x1 x2 x3 x4 M => b_X6_makes_9 F (ih) x0 x1 x2 x3 x4 M) n
def b_X6_makes_0 (F : Nat) (t9 : Nat → Nat → Nat → Int32 → Int32 → cM → Option (Int32 × cM)) : Nat → Nat → Nat → cM → Option (Int32 × cM) := fun x0 x1 x2 M =>
  (f_X10_clear F x2 M).bind fun v1 =>
  t9 x0 x1 x2 (1 : Int32) (0 : Int32) v1
def f_X6_makes_0 (F : Nat) : Nat → Nat → Nat → cM → Option (Int32 × cM) := fun x0 x1 x2 M => b_X6_makes_0 F (f_X6_makes_9 F F) x0 x1 x2 M
def f_X6_makes (F : Nat) : Nat → Nat → Nat → cM → Option (Int32 × cM) := fun a0 a1 a2 M => if isC M a0 5 = true then f_X6_makes_0 F a0 a1 a2 M else none
-- PatchbayScript$Text.isLike(LPatchbayScript$Text;)Z
def b_X10_isLike_15 (F : Nat) (t15 : Nat → Nat → Int32 → cM → Option (Int32 × cM)) : Nat → Nat → Int32 → cM → Option (Int32 × cM) := fun x0 x1 x2 M =>
  (fI M x0 8 2).bind fun v1 =>
  if v1 ≤ x2 then (
  some ((1 : Int32), M))
  else (
  if (20 : Int32) ≤ x2 then (
  some ((1 : Int32), M))
  else (
  (fR M x0 8 0).bind fun v2 =>
  (aI 2 M v2 x2).bind fun v3 =>
  (fR M x1 8 0).bind fun v4 =>
  (aI 2 M v4 x2).bind fun v5 =>
  if v3 = v5 then (
  t15 x0 x1 (x2 + (1 : Int32)) M)
  else (
  some ((0 : Int32), M))))
def f_X10_isLike_15 (F : Nat) : Nat → Nat → Nat → Int32 → cM → Option (Int32 × cM) := fun n => Nat.rec (fun _ _ _ _ => none) (fun _ ih x0 x1 x2 M => b_X10_isLike_15 F (ih) x0 x1 x2 M) n
def b_X10_isLike_0 (F : Nat) (t15 : Nat → Nat → Int32 → cM → Option (Int32 × cM)) : Nat → Nat → cM → Option (Int32 × cM) := fun x0 x1 M =>
  (fI M x0 8 2).bind fun v1 =>
  (fI M x1 8 2).bind fun v2 =>
  if v1 = v2 then (
  t15 x0 x1 (0 : Int32) M)
  else (
  some ((0 : Int32), M))
def f_X10_isLike_0 (F : Nat) : Nat → Nat → cM → Option (Int32 × cM) := fun x0 x1 M => b_X10_isLike_0 F (f_X10_isLike_15 F F) x0 x1 M
def f_X10_isLike (F : Nat) : Nat → Nat → cM → Option (Int32 × cM) := fun a0 a1 M => if isC M a0 8 = true then f_X10_isLike_0 F a0 a1 M else none
-- PatchbayScript$Task.bears(LPatchbayScript$Program;LPatchbayScript$Text;)Z
def b_X9_bears_2 (F : Nat) (t2 : Nat → Nat → Nat → Int32 → cM → Option (Int32 × cM)) : Nat → Nat → Nat → Int32 → cM → Option (Int32 × cM) := fun x0 x1 x2 x3 M =>
  (fI M x0 7 6).bind fun v1 =>
  if v1 ≤ x3 then (
  some ((1 : Int32), M))
  else (
  if (4 : Int32) ≤ x3 then (
  some ((1 : Int32), M))
  else (
  (fR M x0 7 4).bind fun v2 =>
  (aR M v2 x3).bind fun v3 =>
  (f_X6_makes F x1 v3 x2 M).bind fun v4 =>
  if v4.1 = 0 then (
  t2 x0 x1 x2 (x3 + (1 : Int32)) v4.2)
  else (
  (fR v4.2 x0 7 5).bind fun v5 =>
  (aR v4.2 v5 x3).bind fun v6 =>
  (f_X10_isLike F x2 v6 v4.2).bind fun v7 =>
  if v7.1 = 0 then (
  t2 x0 x1 x2 (x3 + (1 : Int32)) v7.2)
  else (
  some ((0 : Int32), v7.2)))))
def f_X9_bears_2 (F : Nat) : Nat → Nat → Nat → Nat → Int32 → cM → Option (Int32 × cM) := fun n => Nat.rec (fun _ _ _ _ _ => none) (fun _ ih x0 x1 x2 x3 M => b_X9_bears_2 F (ih) x0 x1 x2 x3 M) n
def b_X9_bears_0 (F : Nat) (t2 : Nat → Nat → Nat → Int32 → cM → Option (Int32 × cM)) : Nat → Nat → Nat → cM → Option (Int32 × cM) := fun x0 x1 x2 M =>
  t2 x0 x1 x2 (0 : Int32) M
def f_X9_bears_0 (F : Nat) : Nat → Nat → Nat → cM → Option (Int32 × cM) := fun x0 x1 x2 M => b_X9_bears_0 F (f_X9_bears_2 F F) x0 x1 x2 M
def f_X9_bears (F : Nat) : Nat → Nat → Nat → cM → Option (Int32 × cM) := fun a0 a1 a2 M => if isC M a0 7 = true then f_X9_bears_0 F a0 a1 a2 M else none
-- PatchbayScript$Learnt.setOne(LPatchbayScript$Program;)V
def b_X4_setOne_0 (F : Nat) : Nat → Nat → cM → Option (cM) := fun x0 x1 M =>
  (pF M x0 3 2 (.int (1 : Int32))).bind fun M1 =>
  (pF M1 x0 3 3 (.int (-1 : Int32))).bind fun M2 =>
  (fR M2 x0 3 0).bind fun v3 =>
  (f_X6_set F v3 x1 M2).bind fun v4 =>
  some v4
def f_X4_setOne_0 (F : Nat) : Nat → Nat → cM → Option (cM) := fun x0 x1 M => b_X4_setOne_0 F x0 x1 M
def f_X4_setOne (F : Nat) : Nat → Nat → cM → Option (cM) := fun a0 a1 M => if isC M a0 3 = true then f_X4_setOne_0 F a0 a1 M else none
-- PatchbayScript$Learner.learnBest(LPatchbayScript$Task;)Z
def b_X3_learnBest_2 (F : Nat) (t2 : Nat → Nat → Int32 → cM → Option (Int32 × cM)) : Nat → Nat → Int32 → cM → Option (Int32 × cM) := fun x0 x1 x2 M =>
  (fI M x1 7 11).bind fun v1 =>
  if v1 ≤ x2 then (
  some ((0 : Int32), M))
  else (
  if (5 : Int32) ≤ x2 then (
  some ((0 : Int32), M))
  else (
  (fR M x1 7 10).bind fun v2 =>
  (aR M v2 x2).bind fun v3 =>
  (fR M x0 2 3).bind fun v4 =>
  (f_X9_bears F x1 v3 v4 M).bind fun v5 =>
  if v5.1 = 0 then (
  t2 x0 x1 (x2 + (1 : Int32)) v5.2)
  else (
  (fR v5.2 x1 7 8).bind fun v6 =>
  (fR v5.2 x1 7 10).bind fun v7 =>
  (aR v5.2 v7 x2).bind fun v8 =>
  (f_X4_setOne F v6 v8 v5.2).bind fun v9 =>
  some ((1 : Int32), v9))))
def f_X3_learnBest_2 (F : Nat) : Nat → Nat → Nat → Int32 → cM → Option (Int32 × cM) := fun n => Nat.rec (fun _ _ _ _ => none) (fun _ ih x0 x1 x2 M => b_X3_learnBest_2 F (ih) x0 x1 x2 M) n
def b_X3_learnBest_0 (F : Nat) (t2 : Nat → Nat → Int32 → cM → Option (Int32 × cM)) : Nat → Nat → cM → Option (Int32 × cM) := fun x0 x1 M =>
  t2 x0 x1 (0 : Int32) M
def f_X3_learnBest_0 (F : Nat) : Nat → Nat → cM → Option (Int32 × cM) := fun x0 x1 M => b_X3_learnBest_0 F (f_X3_learnBest_2 F F) x0 x1 M
def f_X3_learnBest (F : Nat) : Nat → Nat → cM → Option (Int32 × cM) := fun a0 a1 M => if isC M a0 2 = true then f_X3_learnBest_0 F a0 a1 M else none
-- PatchbayScript$Learnt.setNothing()V
def b_X4_setNothing_0 (F : Nat) : Nat → cM → Option (cM) := fun x0 M =>
  (pF M x0 3 2 (.int (0 : Int32))).bind fun M1 =>
  (pF M1 x0 3 3 (.int (-1 : Int32))).bind fun M2 =>
  some M2
def f_X4_setNothing_0 (F : Nat) : Nat → cM → Option (cM) := fun x0 M => b_X4_setNothing_0 F x0 M
def f_X4_setNothing (F : Nat) : Nat → cM → Option (cM) := fun a0 M => if isC M a0 3 = true then f_X4_setNothing_0 F a0 M else none
-- PatchbayScript$Text.has(C)Z
def b_X10_has_2 (F : Nat) (t2 : Nat → Int32 → Int32 → cM → Option (Int32 × cM)) : Nat → Int32 → Int32 → cM → Option (Int32 × cM) := fun x0 x1 x2 M =>
  (fI M x0 8 2).bind fun v1 =>
  if v1 ≤ x2 then (
  some ((0 : Int32), M))
  else (
  if (20 : Int32) ≤ x2 then (
  some ((0 : Int32), M))
  else (
  (fR M x0 8 0).bind fun v2 =>
  (aI 2 M v2 x2).bind fun v3 =>
  if v3 = x1 then (
  some ((1 : Int32), M))
  else (
  t2 x0 x1 (x2 + (1 : Int32)) M)))
def f_X10_has_2 (F : Nat) : Nat → Nat → Int32 → Int32 → cM → Option (Int32 × cM) := fun n => Nat.rec (fun _ _ _ _ => none) (fun _ ih x0 x1 x2 M => b_X10_has_2 F (ih) x0 x1 x2 M) n
def b_X10_has_0 (F : Nat) (t2 : Nat → Int32 → Int32 → cM → Option (Int32 × cM)) : Nat → Int32 → cM → Option (Int32 × cM) := fun x0 x1 M =>
  t2 x0 x1 (0 : Int32) M
def f_X10_has_0 (F : Nat) : Nat → Int32 → cM → Option (Int32 × cM) := fun x0 x1 M => b_X10_has_0 F (f_X10_has_2 F F) x0 x1 M
def f_X10_has (F : Nat) : Nat → Int32 → cM → Option (Int32 × cM) := fun a0 a1 M => if isC M a0 8 = true then f_X10_has_0 F a0 a1 M else none
-- PatchbayScript$Learnt.holds(ILPatchbayScript$Text;)Z
def b_X4_holds_0 (F : Nat) : Int32 → Nat → cM → Option (Int32 × cM) := fun x0 x1 M =>
  if (12 : Int32) ≤ x0 then (
  if (16 : Int32) ≤ x0 then (
  (f_X7_markOf F (x0 - (15 : Int32)) M).bind fun v1 =>
  (f_X10_has F x1 v1.1 v1.2).bind fun v2 =>
  if v2.1 = 0 ∨ v2.1 = 1 then some (v2.1, v2.2) else none)
  else (
  (f_X10_placesOfRuns F x1 (x0 - (12 : Int32)) (0 : Int32) M).bind fun v3 =>
  if v3.1 &&& (1 : Int32) = 0 then (
  some ((0 : Int32), v3.2))
  else (
  some ((1 : Int32), v3.2))))
  else (
  dz (3 : Int32) (
  (f_X10_placesOfRuns F x1 (x0 / (3 : Int32)) (1 : Int32) M).bind fun v4 =>
  (f_J6_bitCount_0f7a4 F v4.1 v4.2).bind fun v5 =>
  dz (3 : Int32) (
  if v5.1 ≤ x0 - x0 / (3 : Int32) * (3 : Int32) then (
  some ((0 : Int32), v5.2))
  else (
  some ((1 : Int32), v5.2)))))
def f_X4_holds_0 (F : Nat) : Int32 → Nat → cM → Option (Int32 × cM) := fun x0 x1 M => b_X4_holds_0 F x0 x1 M
def f_X4_holds (F : Nat) : Int32 → Nat → cM → Option (Int32 × cM) := fun a0 a1 M => f_X4_holds_0 F a0 a1 M
-- PatchbayScript$Learner.heldOf(LPatchbayScript$Task;I)I
def b_X3_heldOf_4 (F : Nat) (t4 : Nat → Int32 → Int32 → Int32 → cM → Option (Int32 × cM)) : Nat → Int32 → Int32 → Int32 → cM → Option (Int32 × cM) := fun x0 x1 x2 x3 M =>
  (fI M x0 7 3).bind fun v1 =>
  if v1 ≤ x3 then (
  some (x2, M))
  else (
  if (4 : Int32) ≤ x3 then (
  some (x2, M))
  else (
  (fR M x0 7 0).bind fun v2 =>
  (aR M v2 x3).bind fun v3 =>
  (f_X4_holds F x1 v3 M).bind fun v4 =>
  if v4.1 = 0 then (
  t4 x0 x1 x2 (x3 + (1 : Int32)) v4.2)
  else (
  let v5 : Int32 := x2 ||| ((1 : Int32) <<< (x3 &&& 31))
  t4 x0 x1 v5 (x3 + (1 : Int32)) v4.2)))
def f_X3_heldOf_4 (F : Nat) : Nat → Nat → Int32 → Int32 → Int32 → cM → Option (Int32 × cM) := fun n => Nat.rec (fun _ _ _ _ _ => none) (fun _ ih x0 x1 x2 x3 M => b_X3_heldOf_4 F (ih) x0 x1 x2 x3 M) n
def b_X3_heldOf_0 (F : Nat) (t4 : Nat → Int32 → Int32 → Int32 → cM → Option (Int32 × cM)) : Nat → Int32 → cM → Option (Int32 × cM) := fun x0 x1 M =>
  t4 x0 x1 (0 : Int32) (0 : Int32) M
def f_X3_heldOf_0 (F : Nat) : Nat → Int32 → cM → Option (Int32 × cM) := fun x0 x1 M => b_X3_heldOf_0 F (f_X3_heldOf_4 F F) x0 x1 M
def f_X3_heldOf (F : Nat) : Nat → Int32 → cM → Option (Int32 × cM) := fun a0 a1 M => f_X3_heldOf_0 F a0 a1 M
-- PatchbayScript$Learner.isLearnable(LPatchbayScript$Task;I)Z
def b_X3_isLearnable_110 (F : Nat) : Nat → Int32 → cM → Option (Int32 × cM) := fun x0 x2 M =>
  (fR M x0 2 2).bind fun v1 =>
  (aI 0 M v1 x2).bind fun v2 =>
  if v2 = (2 : Int32) then (
  some ((1 : Int32), M))
  else (
  some ((0 : Int32), M))
def f_X3_isLearnable_110 (F : Nat) : Nat → Int32 → cM → Option (Int32 × cM) := fun x0 x2 M => b_X3_isLearnable_110 F x0 x2 M
def b_X3_isLearnable_38 (F : Nat) (t38 : Nat → Nat → Int32 → Int32 → cM → Option (Int32 × cM)) (t110 : Nat → Int32 → cM → Option (Int32 × cM)) : Nat → Nat → Int32 → Int32 → cM → Option (Int32 × cM) := fun x0 x1 x2 x3 M =>
  (fR M x0 2 0).bind fun v1 =>
  (fI M v1 1 1).bind fun v2 =>
  if v2 ≤ x3 then (
  t110 x0 x2 M)
  else (
  (fR M x0 2 2).bind fun v3 =>
  (aI 0 M v3 x2).bind fun v4 =>
  if v4 = (1 : Int32) then (
  (fR M x0 2 0).bind fun v5 =>
  (fR M v5 1 0).bind fun v6 =>
  (aR M v6 x3).bind fun v7 =>
  (fR M x0 2 3).bind fun v8 =>
  (f_X9_bears F x1 v7 v8 M).bind fun v9 =>
  if v9.1 = 0 then (
  t38 x0 x1 x2 (x3 + (1 : Int32)) v9.2)
  else (
  (fR v9.2 x0 2 1).bind fun v10 =>
  (aR v9.2 v10 x2).bind fun v11 =>
  (fR v9.2 x0 2 0).bind fun v12 =>
  (fR v9.2 v12 1 0).bind fun v13 =>
  (aR v9.2 v13 x3).bind fun v14 =>
  (f_X6_set F v11 v14 v9.2).bind fun v15 =>
  (fR v15 x0 2 2).bind fun v16 =>
  (sI 0 v15 v16 x2 (2 : Int32)).bind fun M17 =>
  t38 x0 x1 x2 (x3 + (1 : Int32)) M17))
  else (
  t110 x0 x2 M))
def f_X3_isLearnable_38 (F : Nat) : Nat → Nat → Nat → Int32 → Int32 → cM → Option (Int32 × cM) := fun n => Nat.rec (fun _ _ _ _ _ => none) (fun _ ih x0 x1 x2 x3 M => b_X3_isLearnable_38 F (ih) (f_X3_isLearnable_110 F) x0 x1 x2 x3 M) n
def b_X3_isLearnable_0 (F : Nat) (t38 : Nat → Nat → Int32 → Int32 → cM → Option (Int32 × cM)) (t110 : Nat → Int32 → cM → Option (Int32 × cM)) : Nat → Nat → Int32 → cM → Option (Int32 × cM) := fun x0 x1 x2 M =>
  if x2 < 0 then (
  some ((0 : Int32), M))
  else (
  if x2 < (16 : Int32) then (
  (fR M x0 2 2).bind fun v1 =>
  (aI 0 M v1 x2).bind fun v2 =>
  if v2 = 0 then (
  (fR M x0 2 2).bind fun v3 =>
  (sI 0 M v3 x2 (1 : Int32)).bind fun M4 =>
  (fR M4 x0 2 0).bind fun v5 =>
  (f_X2_find F v5 x2 M4).bind fun v6 =>
  t38 x0 x1 x2 (0 : Int32) v6)
  else (
  t110 x0 x2 M))
  else (
  some ((0 : Int32), M)))
def f_X3_isLearnable_0 (F : Nat) : Nat → Nat → Int32 → cM → Option (Int32 × cM) := fun x0 x1 x2 M => b_X3_isLearnable_0 F (f_X3_isLearnable_38 F F) (f_X3_isLearnable_110 F) x0 x1 x2 M
def f_X3_isLearnable (F : Nat) : Nat → Nat → Int32 → cM → Option (Int32 × cM) := fun a0 a1 a2 M => if isC M a0 2 = true then f_X3_isLearnable_0 F a0 a1 a2 M else none
-- PatchbayScript$Program.sum()I
def b_X6_sum_4 (F : Nat) (t4 : Nat → Int32 → Int32 → cM → Option (Int32 × cM)) : Nat → Int32 → Int32 → cM → Option (Int32 × cM) := fun x0 x1 x2 M =>
  (fI M x0 5 1).bind fun v1 =>
  if v1 ≤ x2 then (
  some (x1, M))
  else (
  if (4 : Int32) ≤ x2 then (
  some (x1, M))
  else (
  (fR M x0 5 0).bind fun v2 =>
  (aI 0 M v2 x2).bind fun v3 =>
  (f_X0_weightOf F v3 M).bind fun v4 =>
  t4 x0 (x1 + v4.1) (x2 + (1 : Int32)) v4.2))
def f_X6_sum_4 (F : Nat) : Nat → Nat → Int32 → Int32 → cM → Option (Int32 × cM) := fun n => Nat.rec (fun _ _ _ _ => none) (fun _ ih x0 x1 x2 M => b_X6_sum_4 F (ih) x0 x1 x2 M) n
def b_X6_sum_0 (F : Nat) (t4 : Nat → Int32 → Int32 → cM → Option (Int32 × cM)) : Nat → cM → Option (Int32 × cM) := fun x0 M =>
  t4 x0 (0 : Int32) (0 : Int32) M
def f_X6_sum_0 (F : Nat) : Nat → cM → Option (Int32 × cM) := fun x0 M => b_X6_sum_0 F (f_X6_sum_4 F F) x0 M
def f_X6_sum (F : Nat) : Nat → cM → Option (Int32 × cM) := fun a0 M => if isC M a0 5 = true then f_X6_sum_0 F a0 M else none
-- PatchbayScript$Learnt.sum()I
def b_X4_sum_0 (F : Nat) : Nat → cM → Option (Int32 × cM) := fun x0 M =>
  (fI M x0 3 3).bind fun v1 =>
  if v1 = (-1 : Int32) then (
  (fR M x0 3 0).bind fun v2 =>
  (f_X6_sum F v2 M).bind fun v3 =>
  some (v3.1, v3.2))
  else (
  (fR M x0 3 0).bind fun v4 =>
  (f_X6_sum F v4 M).bind fun v5 =>
  (fR v5.2 x0 3 1).bind fun v6 =>
  (f_X6_sum F v6 v5.2).bind fun v7 =>
  some (v5.1 + v7.1, v7.2))
def f_X4_sum_0 (F : Nat) : Nat → cM → Option (Int32 × cM) := fun x0 M => b_X4_sum_0 F x0 M
def f_X4_sum (F : Nat) : Nat → cM → Option (Int32 × cM) := fun a0 M => if isC M a0 3 = true then f_X4_sum_0 F a0 M else none
-- PatchbayScript$Learnt.setParted(ILPatchbayScript$Program;LPatchbayScript$Program;)V
def b_X4_setParted_0 (F : Nat) : Nat → Int32 → Nat → Nat → cM → Option (cM) := fun x0 x1 x2 x3 M =>
  (pF M x0 3 2 (.int (1 : Int32))).bind fun M1 =>
  (pF M1 x0 3 3 (.int x1)).bind fun M2 =>
  (fR M2 x0 3 0).bind fun v3 =>
  (f_X6_set F v3 x2 M2).bind fun v4 =>
  (fR v4 x0 3 1).bind fun v5 =>
  (f_X6_set F v5 x3 v4).bind fun v6 =>
  some v6
def f_X4_setParted_0 (F : Nat) : Nat → Int32 → Nat → Nat → cM → Option (cM) := fun x0 x1 x2 x3 M => b_X4_setParted_0 F x0 x1 x2 x3 M
def f_X4_setParted (F : Nat) : Nat → Int32 → Nat → Nat → cM → Option (cM) := fun a0 a1 a2 a3 M => if isC M a0 3 = true then f_X4_setParted_0 F a0 a1 a2 a3 M else none
-- PatchbayScript$Learner.learnParted(LPatchbayScript$Task;)V
def b_X3_learnParted_142 (F : Nat) (t43 : Nat → Nat → Int32 → Int32 → cM → Option (cM)) : Nat → Nat → Int32 → Int32 → Int32 → Int32 → cM → Option (cM) := fun x0 x1 x2 x3 x4 x5 M =>
  (fR M x1 7 8).bind fun v1 =>
  (fR M x0 2 1).bind fun v2 =>
  (aR M v2 x4).bind fun v3 =>
  (fR M x0 2 1).bind fun v4 =>
  (aR M v4 x5).bind fun v5 =>
  (f_X4_setParted F v1 x3 v3 v5 M).bind fun v6 =>
  t43 x0 x1 x2 (x3 + (1 : Int32)) v6
def f_X3_learnParted_142 (F : Nat) (k43 : Nat → Nat → Int32 → Int32 → cM → Option (cM)) : Nat → Nat → Int32 → Int32 → Int32 → Int32 → cM → Option (cM) := fun x0 x1 x2 x3 x4 x5 M => b_X3_learnParted_142 F (k43) x0 x1 x2 x3 x4 x5 M
def b_X3_learnParted_97 (F : Nat) (t43 : Nat → Nat → Int32 → Int32 → cM → Option (cM)) (t142 : Nat → Nat → Int32 → Int32 → Int32 → Int32 → cM → Option (cM)) : Nat → Nat → Int32 → Int32 → Int32 → Int32 → cM → Option (cM) := fun x0 x1 x2 x3 x4 x5 M =>
  (fR M x0 2 1).bind fun v1 =>
  (aR M v1 x4).bind fun v2 =>
  (f_X6_sum F v2 M).bind fun v3 =>
  (fR v3.2 x0 2 1).bind fun v4 =>
  (aR v3.2 v4 x5).bind fun v5 =>
  (f_X6_sum F v5 v3.2).bind fun v6 =>
  (fR v6.2 x1 7 8).bind fun v7 =>
  (fI v6.2 v7 3 2).bind fun v8 =>
  if v8 = 0 then (
  t142 x0 x1 x2 x3 x4 x5 v6.2)
  else (
  (fR v6.2 x1 7 8).bind fun v9 =>
  (f_X4_sum F v9 v6.2).bind fun v10 =>
  if v10.1 ≤ v3.1 + v6.1 then (
  t43 x0 x1 x2 (x3 + (1 : Int32)) v10.2)
  else (
  t142 x0 x1 x2 x3 x4 x5 v10.2))
def f_X3_learnParted_97 (F : Nat) (k43 : Nat → Nat → Int32 → Int32 → cM → Option (cM)) : Nat → Nat → Int32 → Int32 → Int32 → Int32 → cM → Option (cM) := fun x0 x1 x2 x3 x4 x5 M => b_X3_learnParted_97 F (k43) (f_X3_learnParted_142 F k43) x0 x1 x2 x3 x4 x5 M
def b_X3_learnParted_43 (F : Nat) (t43 : Nat → Nat → Int32 → Int32 → cM → Option (cM)) (t97 : Nat → Nat → Int32 → Int32 → Int32 → Int32 → cM → Option (cM)) : Nat → Nat → Int32 → Int32 → cM → Option (cM) := fun x0 x1 x2 x3 M =>
  if (21 : Int32) ≤ x3 then (
  some M)
  else (
  (f_X3_heldOf F x1 x3 M).bind fun v1 =>
  let v2 : Int32 := x2 &&& (v1.1 ^^^ (-1 : Int32))
  if v1.1 = 0 then (
  t43 x0 x1 x2 (x3 + (1 : Int32)) v1.2)
  else (
  if v2 = 0 then (
  t43 x0 x1 x2 (x3 + (1 : Int32)) v1.2)
  else (
  (f_X3_isLearnable F x0 x1 v1.1 v1.2).bind fun v3 =>
  if v3.1 = 0 then (
  t43 x0 x1 x2 (x3 + (1 : Int32)) v3.2)
  else (
  (f_X3_isLearnable F x0 x1 v2 v3.2).bind fun v4 =>
  if v4.1 = 0 then (
  t43 x0 x1 x2 (x3 + (1 : Int32)) v4.2)
  else (
  t97 x0 x1 x2 x3 v1.1 v2 v4.2)))))
def f_X3_learnParted_43 (F : Nat) : Nat → Nat → Nat → Int32 → Int32 → cM → Option (cM) := fun n => Nat.rec (fun _ _ _ _ _ => none) (fun _ ih x0 x1 x2 x3 M => b_X3_learnParted_43 F (ih) (f_X3_learnParted_97 F ih) x0 x1 x2 x3 M) n
def b_X3_learnParted_17 (F : Nat) (t17 : Nat → Nat → Int32 → cM → Option (cM)) (t43 : Nat → Nat → Int32 → Int32 → cM → Option (cM)) : Nat → Nat → Int32 → cM → Option (cM) := fun x0 x1 x2 M =>
  if (16 : Int32) ≤ x2 then (
  (f_X3_allOf F x1 M).bind fun v1 =>
  t43 x0 x1 v1.1 (0 : Int32) v1.2)
  else (
  (fR M x0 2 2).bind fun v2 =>
  (sI 0 M v2 x2 (0 : Int32)).bind fun M3 =>
  t17 x0 x1 (x2 + (1 : Int32)) M3)
def f_X3_learnParted_17 (F : Nat) : Nat → Nat → Nat → Int32 → cM → Option (cM) := fun n => Nat.rec (fun _ _ _ _ => none) (fun _ ih x0 x1 x2 M => b_X3_learnParted_17 F (ih) (f_X3_learnParted_43 F F) x0 x1 x2 M) n
def b_X3_learnParted_0 (F : Nat) (t17 : Nat → Nat → Int32 → cM → Option (cM)) : Nat → Nat → cM → Option (cM) := fun x0 x1 M =>
  (fR M x1 7 8).bind fun v1 =>
  (f_X4_setNothing F v1 M).bind fun v2 =>
  (fR v2 x0 2 0).bind fun v3 =>
  (f_X2_lookAt F v3 x1 v2).bind fun v4 =>
  t17 x0 x1 (0 : Int32) v4
def f_X3_learnParted_0 (F : Nat) : Nat → Nat → cM → Option (cM) := fun x0 x1 M => b_X3_learnParted_0 F (f_X3_learnParted_17 F F) x0 x1 M
def f_X3_learnParted (F : Nat) : Nat → Nat → cM → Option (cM) := fun a0 a1 M => if isC M a0 2 = true then f_X3_learnParted_0 F a0 a1 M else none
-- PatchbayScript$Learner.bestDiffer(LPatchbayScript$Task;LPatchbayScript$Text;)Z
def b_X3_bestDiffer_8 (F : Nat) (t8 : Nat → Nat → Nat → Int32 → Int32 → Int32 → cM → Option (Int32 × cM)) : Nat → Nat → Nat → Int32 → Int32 → Int32 → cM → Option (Int32 × cM) := fun x0 x1 x2 x3 x4 x5 M =>
  (fI M x1 7 11).bind fun v1 =>
  if v1 ≤ x5 then (
  some ((0 : Int32), M))
  else (
  if (5 : Int32) ≤ x5 then (
  some ((0 : Int32), M))
  else (
  (fR M x1 7 10).bind fun v2 =>
  (aR M v2 x5).bind fun v3 =>
  (fR M x0 2 3).bind fun v4 =>
  (f_X9_bears F x1 v3 v4 M).bind fun v5 =>
  if v5.1 = 0 then (
  t8 x0 x1 x2 x3 x4 (x5 + (1 : Int32)) v5.2)
  else (
  if x3 = 0 then (
  (fR v5.2 x1 7 10).bind fun v6 =>
  (aR v5.2 v6 x5).bind fun v7 =>
  (fR v5.2 x0 2 4).bind fun v8 =>
  (f_X6_makes F v7 x2 v8 v5.2).bind fun v9 =>
  t8 x0 x1 x2 (1 : Int32) v9.1 (x5 + (1 : Int32)) v9.2)
  else (
  (fR v5.2 x1 7 10).bind fun v10 =>
  (aR v5.2 v10 x5).bind fun v11 =>
  (fR v5.2 x0 2 3).bind fun v12 =>
  (f_X6_makes F v11 x2 v12 v5.2).bind fun v13 =>
  if v13.1 = x4 then (
  if x4 = 0 then (
  t8 x0 x1 x2 x3 x4 (x5 + (1 : Int32)) v13.2)
  else (
  (fR v13.2 x0 2 3).bind fun v14 =>
  (fR v13.2 x0 2 4).bind fun v15 =>
  (f_X10_isLike F v14 v15 v13.2).bind fun v16 =>
  if v16.1 = 0 then (
  some ((1 : Int32), v16.2))
  else (
  t8 x0 x1 x2 x3 x4 (x5 + (1 : Int32)) v16.2)))
  else (
  some ((1 : Int32), v13.2))))))
def f_X3_bestDiffer_8 (F : Nat) : Nat → Nat → Nat → Nat → Int32 → Int32 → Int32 → cM → Option (Int32 × cM) := fun n => Nat.rec (fun _ _ _ _ _ _ _ => none) (fun _ ih x0 x1 x2 x3 x4 x5 M => b_X3_bestDiffer_8 F (ih) x0 x1 x2 x3 x4 x5 M) n
def b_X3_bestDiffer_0 (F : Nat) (t8 : Nat → Nat → Nat → Int32 → Int32 → Int32 → cM → Option (Int32 × cM)) : Nat → Nat → Nat → cM → Option (Int32 × cM) := fun x0 x1 x2 M =>
  t8 x0 x1 x2 (0 : Int32) (0 : Int32) (0 : Int32) M
def f_X3_bestDiffer_0 (F : Nat) : Nat → Nat → Nat → cM → Option (Int32 × cM) := fun x0 x1 x2 M => b_X3_bestDiffer_0 F (f_X3_bestDiffer_8 F F) x0 x1 x2 M
def f_X3_bestDiffer (F : Nat) : Nat → Nat → Nat → cM → Option (Int32 × cM) := fun a0 a1 a2 M => if isC M a0 2 = true then f_X3_bestDiffer_0 F a0 a1 a2 M else none
-- PatchbayScript$Learnt.set(LPatchbayScript$Learnt;)V
def b_X4_set_0 (F : Nat) : Nat → Nat → cM → Option (cM) := fun x0 x1 M =>
  (fI M x1 3 2).bind fun v1 =>
  if v1 = 0 ∨ v1 = 1 then (
  (pF M x0 3 2 (.int v1)).bind fun M2 =>
  (fI M2 x1 3 3).bind fun v3 =>
  (pF M2 x0 3 3 (.int v3)).bind fun M4 =>
  (fR M4 x0 3 0).bind fun v5 =>
  (fR M4 x1 3 0).bind fun v6 =>
  (f_X6_set F v5 v6 M4).bind fun v7 =>
  (fR v7 x0 3 1).bind fun v8 =>
  (fR v7 x1 3 1).bind fun v9 =>
  (f_X6_set F v8 v9 v7).bind fun v10 =>
  some v10)
  else none
def f_X4_set_0 (F : Nat) : Nat → Nat → cM → Option (cM) := fun x0 x1 M => b_X4_set_0 F x0 x1 M
def f_X4_set (F : Nat) : Nat → Nat → cM → Option (cM) := fun a0 a1 M => if isC M a0 3 = true then f_X4_set_0 F a0 a1 M else none
-- PatchbayScript$Learnt.makes(LPatchbayScript$Text;LPatchbayScript$Text;)Z
def b_X4_makes_33 (F : Nat) : Nat → Nat → Nat → Int32 → cM → Option (Int32 × cM) := fun x0 x1 x2 s0 M =>
  if s0 = 0 then (
  (fR M x0 3 1).bind fun v1 =>
  (f_X6_makes F v1 x1 x2 M).bind fun v2 =>
  if v2.1 = 0 ∨ v2.1 = 1 then some (v2.1, v2.2) else none)
  else (
  (fR M x0 3 0).bind fun v3 =>
  (f_X6_makes F v3 x1 x2 M).bind fun v4 =>
  if v4.1 = 0 ∨ v4.1 = 1 then some (v4.1, v4.2) else none)
def f_X4_makes_33 (F : Nat) : Nat → Nat → Nat → Int32 → cM → Option (Int32 × cM) := fun x0 x1 x2 s0 M => b_X4_makes_33 F x0 x1 x2 s0 M
def b_X4_makes_0 (F : Nat) (t33 : Nat → Nat → Nat → Int32 → cM → Option (Int32 × cM)) : Nat → Nat → Nat → cM → Option (Int32 × cM) := fun x0 x1 x2 M =>
  (fI M x0 3 2).bind fun v1 =>
  if v1 = 0 then (
  some ((0 : Int32), M))
  else (
  (fI M x0 3 3).bind fun v2 =>
  if v2 = (-1 : Int32) then (
  t33 x0 x1 x2 (1 : Int32) M)
  else (
  (fI M x0 3 3).bind fun v3 =>
  (f_X4_holds F v3 x1 M).bind fun v4 =>
  if v4.1 = 0 then (
  t33 x0 x1 x2 (0 : Int32) v4.2)
  else (
  t33 x0 x1 x2 (1 : Int32) v4.2)))
def f_X4_makes_0 (F : Nat) : Nat → Nat → Nat → cM → Option (Int32 × cM) := fun x0 x1 x2 M => b_X4_makes_0 F (f_X4_makes_33 F) x0 x1 x2 M
def f_X4_makes (F : Nat) : Nat → Nat → Nat → cM → Option (Int32 × cM) := fun a0 a1 a2 M => if isC M a0 3 = true then f_X4_makes_0 F a0 a1 a2 M else none
-- PatchbayScript$Line.stepOfExample(II)I
def b_X5_stepOfExample_0 (F : Nat) : Int32 → Int32 → cM → Option (Int32 × cM) := fun x0 x1 M =>
  some ((-1 : Int32) - ((x0 * (4 : Int32)) + x1), M)
def f_X5_stepOfExample_0 (F : Nat) : Int32 → Int32 → cM → Option (Int32 × cM) := fun x0 x1 M => b_X5_stepOfExample_0 F x0 x1 M
def f_X5_stepOfExample (F : Nat) : Int32 → Int32 → cM → Option (Int32 × cM) := fun a0 a1 M => f_X5_stepOfExample_0 F a0 a1 M
-- PatchbayScript$Line.taskOfStep(I)I
def b_X5_taskOfStep_0 (F : Nat) : Int32 → cM → Option (Int32 × cM) := fun x0 M =>
  dz (4 : Int32) (
  some (((-1 : Int32) - x0) / (4 : Int32), M))
def f_X5_taskOfStep_0 (F : Nat) : Int32 → cM → Option (Int32 × cM) := fun x0 M => b_X5_taskOfStep_0 F x0 M
def f_X5_taskOfStep (F : Nat) : Int32 → cM → Option (Int32 × cM) := fun a0 M => f_X5_taskOfStep_0 F a0 M
-- PatchbayScript$Line.exampleOfStep(I)I
def b_X5_exampleOfStep_0 (F : Nat) : Int32 → cM → Option (Int32 × cM) := fun x0 M =>
  dz (4 : Int32) (
  some (((-1 : Int32) - x0) - ((-1 : Int32) - x0) / (4 : Int32) * (4 : Int32), M))
def f_X5_exampleOfStep_0 (F : Nat) : Int32 → cM → Option (Int32 × cM) := fun x0 M => b_X5_exampleOfStep_0 F x0 M
def f_X5_exampleOfStep (F : Nat) : Int32 → cM → Option (Int32 × cM) := fun a0 M => f_X5_exampleOfStep_0 F a0 M
-- PatchbayScript$Line.begin(LPatchbayScript$Text;)V
def b_X5_begin_0 (F : Nat) : Nat → Nat → cM → Option (cM) := fun x0 x1 M =>
  (fR M x0 4 0).bind fun v1 =>
  (f_X10_set F v1 x1 M).bind fun v2 =>
  (fR v2 x0 4 1).bind fun v3 =>
  (f_X10_set F v3 x1 v2).bind fun v4 =>
  some v4
def f_X5_begin_0 (F : Nat) : Nat → Nat → cM → Option (cM) := fun x0 x1 M => b_X5_begin_0 F x0 x1 M
def f_X5_begin (F : Nat) : Nat → Nat → cM → Option (cM) := fun a0 a1 M => if isC M a0 4 = true then f_X5_begin_0 F a0 a1 M else none
-- PatchbayScript$Line.addStep(ILPatchbayScript$Text;)V
def b_X5_addStep_0 (F : Nat) : Nat → Int32 → Nat → cM → Option (cM) := fun x0 x1 x2 M =>
  (fI M x0 4 3).bind fun v1 =>
  if (33 : Int32) ≤ v1 then (
  some M)
  else (
  (fR M x0 4 2).bind fun v2 =>
  (fI M x0 4 3).bind fun v3 =>
  (sI 0 M v2 v3 x1).bind fun M4 =>
  (fI M4 x0 4 3).bind fun v5 =>
  (pF M4 x0 4 3 (.int (v5 + (1 : Int32)))).bind fun M6 =>
  (fR M6 x0 4 1).bind fun v7 =>
  (f_X10_set F v7 x2 M6).bind fun v8 =>
  some v8)
def f_X5_addStep_0 (F : Nat) : Nat → Int32 → Nat → cM → Option (cM) := fun x0 x1 x2 M => b_X5_addStep_0 F x0 x1 x2 M
def f_X5_addStep (F : Nat) : Nat → Int32 → Nat → cM → Option (cM) := fun a0 a1 a2 M => if isC M a0 4 = true then f_X5_addStep_0 F a0 a1 a2 M else none
-- PatchbayScript$Line.hasStep(I)Z
def b_X5_hasStep_2 (F : Nat) (t2 : Nat → Int32 → Int32 → cM → Option (Int32 × cM)) : Nat → Int32 → Int32 → cM → Option (Int32 × cM) := fun x0 x1 x2 M =>
  (fI M x0 4 3).bind fun v1 =>
  if v1 ≤ x2 then (
  some ((0 : Int32), M))
  else (
  if (33 : Int32) ≤ x2 then (
  some ((0 : Int32), M))
  else (
  (fR M x0 4 2).bind fun v2 =>
  (aI 0 M v2 x2).bind fun v3 =>
  if v3 = x1 then (
  some ((1 : Int32), M))
  else (
  t2 x0 x1 (x2 + (1 : Int32)) M)))
def f_X5_hasStep_2 (F : Nat) : Nat → Nat → Int32 → Int32 → cM → Option (Int32 × cM) := fun n => Nat.rec (fun _ _ _ _ => none) (fun _ ih x0 x1 x2 M => b_X5_hasStep_2 F (ih) x0 x1 x2 M) n
def b_X5_hasStep_0 (F : Nat) (t2 : Nat → Int32 → Int32 → cM → Option (Int32 × cM)) : Nat → Int32 → cM → Option (Int32 × cM) := fun x0 x1 M =>
  t2 x0 x1 (0 : Int32) M
def f_X5_hasStep_0 (F : Nat) : Nat → Int32 → cM → Option (Int32 × cM) := fun x0 x1 M => b_X5_hasStep_0 F (f_X5_hasStep_2 F F) x0 x1 M
def f_X5_hasStep (F : Nat) : Nat → Int32 → cM → Option (Int32 × cM) := fun a0 a1 M => if isC M a0 4 = true then f_X5_hasStep_0 F a0 a1 M else none
-- PatchbayScript$Sign.isOfTexts(C)Z
def b_X7_isOfTexts_20 (F : Nat) (t20 : Int32 → Int32 → cM → Option (Int32 × cM)) : Int32 → Int32 → cM → Option (Int32 × cM) := fun x0 x1 M =>
  if (6 : Int32) ≤ x1 then (
  some ((0 : Int32), M))
  else (
  (f_X7_markOf F x1 M).bind fun v1 =>
  if x0 = v1.1 then (
  some ((1 : Int32), v1.2))
  else (
  t20 x0 (x1 + (1 : Int32)) v1.2))
def f_X7_isOfTexts_20 (F : Nat) : Nat → Int32 → Int32 → cM → Option (Int32 × cM) := fun n => Nat.rec (fun _ _ _ => none) (fun _ ih x0 x1 M => b_X7_isOfTexts_20 F (ih) x0 x1 M) n
def b_X7_isOfTexts_0 (F : Nat) (t20 : Int32 → Int32 → cM → Option (Int32 × cM)) : Int32 → cM → Option (Int32 × cM) := fun x0 M =>
  (f_X7_isOf F x0 (0 : Int32) M).bind fun v1 =>
  if v1.1 = 0 then (
  (f_X7_isOf F x0 (1 : Int32) v1.2).bind fun v2 =>
  if v2.1 = 0 then (
  t20 x0 (1 : Int32) v2.2)
  else (
  some ((1 : Int32), v2.2)))
  else (
  some ((1 : Int32), v1.2))
def f_X7_isOfTexts_0 (F : Nat) : Int32 → cM → Option (Int32 × cM) := fun x0 M => b_X7_isOfTexts_0 F (f_X7_isOfTexts_20 F F) x0 M
def f_X7_isOfTexts (F : Nat) : Int32 → cM → Option (Int32 × cM) := fun a0 M => f_X7_isOfTexts_0 F a0 M
-- PatchbayScript$Task.hasExampleOn(I)Z
def b_X9_hasExampleOn_2 (F : Nat) (t2 : Nat → Int32 → Int32 → cM → Option (Int32 × cM)) : Nat → Int32 → Int32 → cM → Option (Int32 × cM) := fun x0 x1 x2 M =>
  (fI M x0 7 3).bind fun v1 =>
  if v1 ≤ x2 then (
  some ((0 : Int32), M))
  else (
  if (4 : Int32) ≤ x2 then (
  some ((0 : Int32), M))
  else (
  (fR M x0 7 2).bind fun v2 =>
  (aI 0 M v2 x2).bind fun v3 =>
  if v3 = x1 then (
  some ((1 : Int32), M))
  else (
  t2 x0 x1 (x2 + (1 : Int32)) M)))
def f_X9_hasExampleOn_2 (F : Nat) : Nat → Nat → Int32 → Int32 → cM → Option (Int32 × cM) := fun n => Nat.rec (fun _ _ _ _ => none) (fun _ ih x0 x1 x2 M => b_X9_hasExampleOn_2 F (ih) x0 x1 x2 M) n
def b_X9_hasExampleOn_0 (F : Nat) (t2 : Nat → Int32 → Int32 → cM → Option (Int32 × cM)) : Nat → Int32 → cM → Option (Int32 × cM) := fun x0 x1 M =>
  t2 x0 x1 (0 : Int32) M
def f_X9_hasExampleOn_0 (F : Nat) : Nat → Int32 → cM → Option (Int32 × cM) := fun x0 x1 M => b_X9_hasExampleOn_0 F (f_X9_hasExampleOn_2 F F) x0 x1 M
def f_X9_hasExampleOn (F : Nat) : Nat → Int32 → cM → Option (Int32 × cM) := fun a0 a1 M => if isC M a0 7 = true then f_X9_hasExampleOn_0 F a0 a1 M else none
-- PatchbayScript$Task.addExample(LPatchbayScript$Text;LPatchbayScript$Text;I)I
def b_X9_addExample_0 (F : Nat) : Nat → Nat → Nat → Int32 → cM → Option (Int32 × cM) := fun x0 x1 x2 x3 M =>
  (fI M x0 7 3).bind fun v1 =>
  let v2 : Int32 := mnI v1 (3 : Int32)
  (fR M x0 7 0).bind fun v3 =>
  (aR M v3 v2).bind fun v4 =>
  (f_X10_set F v4 x1 M).bind fun v5 =>
  (fR v5 x0 7 1).bind fun v6 =>
  (aR v5 v6 v2).bind fun v7 =>
  (f_X10_set F v7 x2 v5).bind fun v8 =>
  (fR v8 x0 7 2).bind fun v9 =>
  (sI 0 v8 v9 v2 x3).bind fun M10 =>
  (pF M10 x0 7 3 (.int (v2 + (1 : Int32)))).bind fun M11 =>
  (pF M11 x0 7 12 (.int (0 : Int32))).bind fun M12 =>
  some (v2, M12)
def f_X9_addExample_0 (F : Nat) : Nat → Nat → Nat → Int32 → cM → Option (Int32 × cM) := fun x0 x1 x2 x3 M => b_X9_addExample_0 F x0 x1 x2 x3 M
def f_X9_addExample (F : Nat) : Nat → Nat → Nat → Int32 → cM → Option (Int32 × cM) := fun a0 a1 a2 a3 M => if isC M a0 7 = true then f_X9_addExample_0 F a0 a1 a2 a3 M else none
-- PatchbayScript$Task.addRefusal(LPatchbayScript$Text;LPatchbayScript$Text;)V
def b_X9_addRefusal_0 (F : Nat) : Nat → Nat → Nat → cM → Option (cM) := fun x0 x1 x2 M =>
  (fI M x0 7 6).bind fun v1 =>
  let v2 : Int32 := mnI v1 (3 : Int32)
  (fR M x0 7 4).bind fun v3 =>
  (aR M v3 v2).bind fun v4 =>
  (f_X10_set F v4 x1 M).bind fun v5 =>
  (fR v5 x0 7 5).bind fun v6 =>
  (aR v5 v6 v2).bind fun v7 =>
  (f_X10_set F v7 x2 v5).bind fun v8 =>
  (pF v8 x0 7 6 (.int (v2 + (1 : Int32)))).bind fun M9 =>
  some M9
def f_X9_addRefusal_0 (F : Nat) : Nat → Nat → Nat → cM → Option (cM) := fun x0 x1 x2 M => b_X9_addRefusal_0 F x0 x1 x2 M
def f_X9_addRefusal (F : Nat) : Nat → Nat → Nat → cM → Option (cM) := fun a0 a1 a2 M => if isC M a0 7 = true then f_X9_addRefusal_0 F a0 a1 a2 M else none
-- PatchbayScript$Task.setPin(II)V
def b_X9_setPin_0 (F : Nat) : Nat → Int32 → Int32 → cM → Option (cM) := fun x0 x1 x2 M =>
  if x1 < 0 then (
  some M)
  else (
  if (4 : Int32) ≤ x1 then (
  some M)
  else (
  (fR M x0 7 7).bind fun v1 =>
  (sI 0 M v1 x1 x2).bind fun M2 =>
  (pF M2 x0 7 12 (.int (0 : Int32))).bind fun M3 =>
  some M3))
def f_X9_setPin_0 (F : Nat) : Nat → Int32 → Int32 → cM → Option (cM) := fun x0 x1 x2 M => b_X9_setPin_0 F x0 x1 x2 M
def f_X9_setPin (F : Nat) : Nat → Int32 → Int32 → cM → Option (cM) := fun a0 a1 a2 M => if isC M a0 7 = true then f_X9_setPin_0 F a0 a1 a2 M else none
-- PatchbayScript$Task.pinCount()I
def b_X9_pinCount_4 (F : Nat) (t4 : Nat → Int32 → Int32 → cM → Option (Int32 × cM)) : Nat → Int32 → Int32 → cM → Option (Int32 × cM) := fun x0 x1 x2 M =>
  if (4 : Int32) ≤ x2 then (
  some (x1, M))
  else (
  (fR M x0 7 7).bind fun v1 =>
  (aI 0 M v1 x2).bind fun v2 =>
  if v2 = (-1 : Int32) then (
  t4 x0 x1 (x2 + (1 : Int32)) M)
  else (
  t4 x0 (x1 + (1 : Int32)) (x2 + (1 : Int32)) M))
def f_X9_pinCount_4 (F : Nat) : Nat → Nat → Int32 → Int32 → cM → Option (Int32 × cM) := fun n => Nat.rec (fun _ _ _ _ => none) (fun _ ih x0 x1 x2 M => b_X9_pinCount_4 F (ih) x0 x1 x2 M) n
def b_X9_pinCount_0 (F : Nat) (t4 : Nat → Int32 → Int32 → cM → Option (Int32 × cM)) : Nat → cM → Option (Int32 × cM) := fun x0 M =>
  t4 x0 (0 : Int32) (0 : Int32) M
def f_X9_pinCount_0 (F : Nat) : Nat → cM → Option (Int32 × cM) := fun x0 M => b_X9_pinCount_0 F (f_X9_pinCount_4 F F) x0 M
def f_X9_pinCount (F : Nat) : Nat → cM → Option (Int32 × cM) := fun a0 M => if isC M a0 7 = true then f_X9_pinCount_0 F a0 M else none
-- PatchbayScript.type(C)I
def b_X11_type_0 (F : Nat) : Nat → Int32 → cM → Option (Nat × Int32 × cM) := fun x0 x1 M =>
  (f_X7_isOfTexts F x1 M).bind fun v1 =>
  if v1.1 = 0 then (
  kxTI 1 v1.2)
  else (
  (fR v1.2 x0 9 0).bind fun v2 =>
  (fI v1.2 v2 8 2).bind fun v3 =>
  if v3 < (20 : Int32) then (
  (fR v1.2 x0 9 0).bind fun v4 =>
  (f_X10_add F v4 x1 v1.2).bind fun v5 =>
  (fR v5.2 x0 9 0).bind fun v6 =>
  (fI v5.2 v6 8 2).bind fun v7 =>
  some (0, v7, v5.2))
  else (
  kxTI 2 v1.2))
def f_X11_type_0 (F : Nat) : Nat → Int32 → cM → Option (Nat × Int32 × cM) := fun x0 x1 M => b_X11_type_0 F x0 x1 M
def f_X11_type (F : Nat) : Nat → Int32 → cM → Option (Nat × Int32 × cM) := fun a0 a1 M => if isC M a0 9 = true then f_X11_type_0 F a0 a1 M else none
-- PatchbayScript.standingTasks()I
def b_X11_standingTasks_4 (F : Nat) (t4 : Nat → Int32 → Int32 → cM → Option (Int32 × cM)) : Nat → Int32 → Int32 → cM → Option (Int32 × cM) := fun x0 x1 x2 M =>
  if (3 : Int32) ≤ x2 then (
  some (x1, M))
  else (
  (fR M x0 9 2).bind fun v1 =>
  (aR M v1 x2).bind fun v2 =>
  (fI M v2 7 9).bind fun v3 =>
  if v3 = 0 then (
  t4 x0 x1 (x2 + (1 : Int32)) M)
  else (
  t4 x0 (x1 + (1 : Int32)) (x2 + (1 : Int32)) M))
def f_X11_standingTasks_4 (F : Nat) : Nat → Nat → Int32 → Int32 → cM → Option (Int32 × cM) := fun n => Nat.rec (fun _ _ _ _ => none) (fun _ ih x0 x1 x2 M => b_X11_standingTasks_4 F (ih) x0 x1 x2 M) n
def b_X11_standingTasks_0 (F : Nat) (t4 : Nat → Int32 → Int32 → cM → Option (Int32 × cM)) : Nat → cM → Option (Int32 × cM) := fun x0 M =>
  t4 x0 (0 : Int32) (0 : Int32) M
def f_X11_standingTasks_0 (F : Nat) : Nat → cM → Option (Int32 × cM) := fun x0 M => b_X11_standingTasks_0 F (f_X11_standingTasks_4 F F) x0 M
def f_X11_standingTasks (F : Nat) : Nat → cM → Option (Int32 × cM) := fun a0 M => if isC M a0 9 = true then f_X11_standingTasks_0 F a0 M else none
-- PatchbayScript.runOn(LPatchbayScript$Task;III)I
def b_X11_runOn_55 (F : Nat) (t55 : Nat → Nat → Int32 → Int32 → Int32 → Int32 → Int32 → cM → Option (Int32 × cM)) : Nat → Nat → Int32 → Int32 → Int32 → Int32 → Int32 → cM → Option (Int32 × cM) := fun x0 x1 x3 x4 x5 x6 x7 M =>
  if x3 < x7 then (
  some (x6, M))
  else (
  if (8 : Int32) ≤ x7 then (
  some (x6, M))
  else (
  (f_X9_hasExampleOn F x1 x7 M).bind fun v1 =>
  if v1.1 = 0 then (
  (fR v1.2 x1 7 8).bind fun v2 =>
  (fR v1.2 x0 9 3).bind fun v3 =>
  (aR v1.2 v3 x7).bind fun v4 =>
  (fR v1.2 v4 4 1).bind fun v5 =>
  (fR v1.2 x0 9 1).bind fun v6 =>
  (f_X4_makes F v2 v5 v6 v1.2).bind fun v7 =>
  if v7.1 = 0 then (
  if x4 = 0 then (
  some (x6, v7.2))
  else (
  if x4 = (2 : Int32) then (
  (fI v7.2 x0 9 9).bind fun v8 =>
  (pF v7.2 x0 9 9 (.int (v8 ||| ((1 : Int32) <<< (x7 &&& 31))))).bind fun M9 =>
  t55 x0 x1 x3 x4 x5 x6 (x7 + (1 : Int32)) M9)
  else (
  t55 x0 x1 x3 x4 x5 x6 (x7 + (1 : Int32)) v7.2)))
  else (
  (fR v7.2 x0 9 3).bind fun v10 =>
  (aR v7.2 v10 x7).bind fun v11 =>
  (fR v7.2 x0 9 1).bind fun v12 =>
  (f_X5_addStep F v11 x5 v12 v7.2).bind fun v13 =>
  t55 x0 x1 x3 x4 x5 (x6 + (1 : Int32)) (x7 + (1 : Int32)) v13))
  else (
  t55 x0 x1 x3 x4 x5 x6 (x7 + (1 : Int32)) v1.2)))
def f_X11_runOn_55 (F : Nat) : Nat → Nat → Nat → Int32 → Int32 → Int32 → Int32 → Int32 → cM → Option (Int32 × cM) := fun n => Nat.rec (fun _ _ _ _ _ _ _ _ => none) (fun _ ih x0 x1 x3 x4 x5 x6 x7 M => b_X11_runOn_55 F (ih) x0 x1 x3 x4 x5 x6 x7 M) n
def b_X11_runOn_0 (F : Nat) (t55 : Nat → Nat → Int32 → Int32 → Int32 → Int32 → Int32 → cM → Option (Int32 × cM)) : Nat → Nat → Int32 → Int32 → Int32 → cM → Option (Int32 × cM) := fun x0 x1 x2 x3 x4 M =>
  (fI M x0 9 8).bind fun v1 =>
  if v1 < (30 : Int32) then (
  (fI M x0 9 8).bind fun v2 =>
  (fI M x0 9 8).bind fun v3 =>
  (pF M x0 9 8 (.int (v3 + (1 : Int32)))).bind fun M4 =>
  (fR M4 x0 9 4).bind fun v5 =>
  (aR M4 v5 v2).bind fun v6 =>
  (fR M4 x1 7 8).bind fun v7 =>
  (f_X4_set F v6 v7 M4).bind fun v8 =>
  (fR v8 x0 9 5).bind fun v9 =>
  (sI 3 v8 v9 v2 (1 : Int32)).bind fun M10 =>
  t55 x0 x1 x3 x4 v2 (0 : Int32) x2 M10)
  else (
  some ((0 : Int32), M))
def f_X11_runOn_0 (F : Nat) : Nat → Nat → Int32 → Int32 → Int32 → cM → Option (Int32 × cM) := fun x0 x1 x2 x3 x4 M => b_X11_runOn_0 F (f_X11_runOn_55 F F) x0 x1 x2 x3 x4 M
def f_X11_runOn (F : Nat) : Nat → Nat → Int32 → Int32 → Int32 → cM → Option (Int32 × cM) := fun a0 a1 a2 a3 a4 M => if isC M a0 9 = true then f_X11_runOn_0 F a0 a1 a2 a3 a4 M else none
-- PatchbayScript.line()I
def b_X11_line_80 (F : Nat) (t80 : Nat → Int32 → Int32 → cM → Option (Nat × Int32 × cM)) : Nat → Int32 → Int32 → cM → Option (Nat × Int32 × cM) := fun x0 x1 x2 M =>
  if (3 : Int32) ≤ x2 then (
  some (0, x1, M))
  else (
  (fR M x0 9 2).bind fun v1 =>
  (aR M v1 x2).bind fun v2 =>
  (fI M v2 7 9).bind fun v3 =>
  if v3 = 0 then (
  t80 x0 x1 (x2 + (1 : Int32)) M)
  else (
  (fR M x0 9 2).bind fun v4 =>
  (aR M v4 x2).bind fun v5 =>
  (f_X11_runOn F x0 v5 x1 x1 (1 : Int32) M).bind fun v6 =>
  t80 x0 x1 (x2 + (1 : Int32)) v6.2))
def f_X11_line_80 (F : Nat) : Nat → Nat → Int32 → Int32 → cM → Option (Nat × Int32 × cM) := fun n => Nat.rec (fun _ _ _ _ => none) (fun _ ih x0 x1 x2 M => b_X11_line_80 F (ih) x0 x1 x2 M) n
def b_X11_line_0 (F : Nat) (t80 : Nat → Int32 → Int32 → cM → Option (Nat × Int32 × cM)) : Nat → cM → Option (Nat × Int32 × cM) := fun x0 M =>
  (fI M x0 9 7).bind fun v1 =>
  if v1 < (8 : Int32) then (
  (fI M x0 9 8).bind fun v2 =>
  (f_X11_standingTasks F x0 M).bind fun v3 =>
  if v2 + v3.1 ≤ (30 : Int32) then (
  (fI v3.2 x0 9 7).bind fun v4 =>
  (fI v3.2 x0 9 7).bind fun v5 =>
  (pF v3.2 x0 9 7 (.int (v5 + (1 : Int32)))).bind fun M6 =>
  (fR M6 x0 9 3).bind fun v7 =>
  (aR M6 v7 v4).bind fun v8 =>
  (fR M6 x0 9 0).bind fun v9 =>
  (f_X5_begin F v8 v9 M6).bind fun v10 =>
  (fR v10 x0 9 0).bind fun v11 =>
  (f_X10_clear F v11 v10).bind fun v12 =>
  t80 x0 v4 (0 : Int32) v12)
  else (
  kxTI 2 v3.2))
  else (
  kxTI 2 M)
def f_X11_line_0 (F : Nat) : Nat → cM → Option (Nat × Int32 × cM) := fun x0 M => b_X11_line_0 F (f_X11_line_80 F F) x0 M
def f_X11_line (F : Nat) : Nat → cM → Option (Nat × Int32 × cM) := fun a0 M => if isC M a0 9 = true then f_X11_line_0 F a0 M else none
-- PatchbayScript.needLine(I)V
def b_X11_needLine_0 (F : Nat) : Nat → Int32 → cM → Option (Nat × cM) := fun x0 x1 M =>
  if x1 < 0 then (
  kxTV 3 M)
  else (
  (fI M x0 9 7).bind fun v1 =>
  if v1 ≤ x1 then (
  kxTV 3 M)
  else (
  if x1 < (8 : Int32) then (
  some (0, M))
  else (
  kxTV 3 M)))
def f_X11_needLine_0 (F : Nat) : Nat → Int32 → cM → Option (Nat × cM) := fun x0 x1 M => b_X11_needLine_0 F x0 x1 M
def f_X11_needLine (F : Nat) : Nat → Int32 → cM → Option (Nat × cM) := fun a0 a1 M => if isC M a0 9 = true then f_X11_needLine_0 F a0 a1 M else none
-- PatchbayScript.length(I)I
def b_X11_length_0 (F : Nat) : Nat → Int32 → cM → Option (Nat × Int32 × cM) := fun x0 x1 M =>
  (f_X11_needLine F x0 x1 M).bind fun v1 =>
  if v1.1 = 0 then (
  (fR v1.2 x0 9 3).bind fun v2 =>
  (aR v1.2 v2 x1).bind fun v3 =>
  (fR v1.2 v3 4 1).bind fun v4 =>
  (fI v1.2 v4 8 2).bind fun v5 =>
  some (0, v5, v1.2))
  else kxTI v1.1 v1.2
def f_X11_length_0 (F : Nat) : Nat → Int32 → cM → Option (Nat × Int32 × cM) := fun x0 x1 M => b_X11_length_0 F x0 x1 M
def f_X11_length (F : Nat) : Nat → Int32 → cM → Option (Nat × Int32 × cM) := fun a0 a1 M => if isC M a0 9 = true then f_X11_length_0 F a0 a1 M else none
-- PatchbayScript.signAt(II)C
def b_X11_signAt_0 (F : Nat) : Nat → Int32 → Int32 → cM → Option (Nat × Int32 × cM) := fun x0 x1 x2 M =>
  (f_X11_needLine F x0 x1 M).bind fun v1 =>
  if v1.1 = 0 then (
  (fR v1.2 x0 9 3).bind fun v2 =>
  (aR v1.2 v2 x1).bind fun v3 =>
  (fR v1.2 v3 4 1).bind fun v4 =>
  if x2 < 0 then (
  kxTI 3 v1.2)
  else (
  (fI v1.2 v4 8 2).bind fun v5 =>
  if x2 < v5 then (
  (f_X10_at F v4 x2 v1.2).bind fun v6 =>
  if vp_nar .char v6.1 = v6.1 then some (0, v6.1, v6.2) else none)
  else (
  kxTI 3 v1.2)))
  else kxTI v1.1 v1.2
def f_X11_signAt_0 (F : Nat) : Nat → Int32 → Int32 → cM → Option (Nat × Int32 × cM) := fun x0 x1 x2 M => b_X11_signAt_0 F x0 x1 x2 M
def f_X11_signAt (F : Nat) : Nat → Int32 → Int32 → cM → Option (Nat × Int32 × cM) := fun a0 a1 a2 M => if isC M a0 9 = true then f_X11_signAt_0 F a0 a1 a2 M else none
-- PatchbayScript.placeOf(II)I
def b_X11_placeOf_0 (F : Nat) : Nat → Int32 → Int32 → cM → Option (Nat × Int32 × cM) := fun x0 x1 x2 M =>
  (f_X11_needLine F x0 x1 M).bind fun v1 =>
  if v1.1 = 0 then (
  if x2 < 0 then (
  kxTI 1 v1.2)
  else (
  if x2 < (30 : Int32) then (
  (fR v1.2 x0 9 3).bind fun v2 =>
  (aR v1.2 v2 x1).bind fun v3 =>
  (fR v1.2 v3 4 1).bind fun v4 =>
  (f_X10_placeOfSpot F v4 x2 v1.2).bind fun v5 =>
  some (0, v5.1, v5.2))
  else (
  kxTI 1 v1.2)))
  else kxTI v1.1 v1.2
def f_X11_placeOf_0 (F : Nat) : Nat → Int32 → Int32 → cM → Option (Nat × Int32 × cM) := fun x0 x1 x2 M => b_X11_placeOf_0 F x0 x1 x2 M
def f_X11_placeOf (F : Nat) : Nat → Int32 → Int32 → cM → Option (Nat × Int32 × cM) := fun a0 a1 a2 M => if isC M a0 9 = true then f_X11_placeOf_0 F a0 a1 a2 M else none
-- PatchbayScript.needTask(I)V
def b_X11_needTask_0 (F : Nat) : Nat → Int32 → cM → Option (Nat × cM) := fun x0 x1 M =>
  if x1 < 0 then (
  kxTV 3 M)
  else (
  if x1 < (3 : Int32) then (
  some (0, M))
  else (
  kxTV 3 M))
def f_X11_needTask_0 (F : Nat) : Nat → Int32 → cM → Option (Nat × cM) := fun x0 x1 M => b_X11_needTask_0 F x0 x1 M
def f_X11_needTask (F : Nat) : Nat → Int32 → cM → Option (Nat × cM) := fun a0 a1 M => if isC M a0 9 = true then f_X11_needTask_0 F a0 a1 M else none
-- PatchbayScript.show(II)I
def b_X11_show_73 (F : Nat) : Nat → Int32 → Int32 → Nat → cM → Option (Nat × Int32 × cM) := fun x0 x1 x2 x3 M =>
  (fR M x0 9 3).bind fun v1 =>
  (aR M v1 x2).bind fun v2 =>
  (fR M v2 4 1).bind fun v3 =>
  (fR M x0 9 0).bind fun v4 =>
  (f_X9_addExample F x3 v3 v4 x2 M).bind fun v5 =>
  (fR v5.2 x0 9 3).bind fun v6 =>
  (aR v5.2 v6 x2).bind fun v7 =>
  (f_X5_stepOfExample F x1 v5.1 v5.2).bind fun v8 =>
  (fR v8.2 x0 9 0).bind fun v9 =>
  (f_X5_addStep F v7 v8.1 v9 v8.2).bind fun v10 =>
  (fR v10 x0 9 0).bind fun v11 =>
  (f_X10_clear F v11 v10).bind fun v12 =>
  (fI v12 x3 7 3).bind fun v13 =>
  some (0, v13, v12)
def f_X11_show_73 (F : Nat) : Nat → Int32 → Int32 → Nat → cM → Option (Nat × Int32 × cM) := fun x0 x1 x2 x3 M => b_X11_show_73 F x0 x1 x2 x3 M
def b_X11_show_0 (F : Nat) (t73 : Nat → Int32 → Int32 → Nat → cM → Option (Nat × Int32 × cM)) : Nat → Int32 → Int32 → cM → Option (Nat × Int32 × cM) := fun x0 x1 x2 M =>
  (f_X11_needTask F x0 x1 M).bind fun v1 =>
  if v1.1 = 0 then (
  (f_X11_needLine F x0 x2 v1.2).bind fun v2 =>
  if v2.1 = 0 then (
  (fR v2.2 x0 9 2).bind fun v3 =>
  (aR v2.2 v3 x1).bind fun v4 =>
  (fR v2.2 x0 9 0).bind fun v5 =>
  (fI v2.2 v5 8 2).bind fun v6 =>
  if v6 = 0 then (
  kxTI 2 v2.2)
  else (
  (fI v2.2 v4 7 3).bind fun v7 =>
  if v7 < (4 : Int32) then (
  (f_X9_hasExampleOn F v4 x2 v2.2).bind fun v8 =>
  if v8.1 = 0 then (
  t73 x0 x1 x2 v4 v8.2)
  else (
  kxTI 2 v8.2))
  else (
  kxTI 2 v2.2)))
  else kxTI v2.1 v2.2)
  else kxTI v1.1 v1.2
def f_X11_show_0 (F : Nat) : Nat → Int32 → Int32 → cM → Option (Nat × Int32 × cM) := fun x0 x1 x2 M => b_X11_show_0 F (f_X11_show_73 F) x0 x1 x2 M
def f_X11_show (F : Nat) : Nat → Int32 → Int32 → cM → Option (Nat × Int32 × cM) := fun a0 a1 a2 M => if isC M a0 9 = true then f_X11_show_0 F a0 a1 a2 M else none
-- PatchbayScript.refuse(II)I
def b_X11_refuse_0 (F : Nat) : Nat → Int32 → Int32 → cM → Option (Nat × Int32 × cM) := fun x0 x1 x2 M =>
  (f_X11_needTask F x0 x1 M).bind fun v1 =>
  if v1.1 = 0 then (
  (f_X11_needLine F x0 x2 v1.2).bind fun v2 =>
  if v2.1 = 0 then (
  (fR v2.2 x0 9 2).bind fun v3 =>
  (aR v2.2 v3 x1).bind fun v4 =>
  (fR v2.2 x0 9 3).bind fun v5 =>
  (aR v2.2 v5 x2).bind fun v6 =>
  (fR v2.2 v6 4 1).bind fun v7 =>
  (fR v2.2 v4 7 8).bind fun v8 =>
  (fR v2.2 x0 9 1).bind fun v9 =>
  (f_X4_makes F v8 v7 v9 v2.2).bind fun v10 =>
  if v10.1 = 0 then (
  kxTI 2 v10.2)
  else (
  (fI v10.2 v4 7 6).bind fun v11 =>
  if v11 < (4 : Int32) then (
  (fR v10.2 x0 9 1).bind fun v12 =>
  (f_X9_addRefusal F v4 v7 v12 v10.2).bind fun v13 =>
  (fI v13 v4 7 6).bind fun v14 =>
  some (0, v14, v13))
  else (
  kxTI 2 v10.2)))
  else kxTI v2.1 v2.2)
  else kxTI v1.1 v1.2
def f_X11_refuse_0 (F : Nat) : Nat → Int32 → Int32 → cM → Option (Nat × Int32 × cM) := fun x0 x1 x2 M => b_X11_refuse_0 F x0 x1 x2 M
def f_X11_refuse (F : Nat) : Nat → Int32 → Int32 → cM → Option (Nat × Int32 × cM) := fun a0 a1 a2 M => if isC M a0 9 = true then f_X11_refuse_0 F a0 a1 a2 M else none
-- PatchbayScript.atomToPin(IIII)I
def b_X11_atomToPin_0 (F : Nat) : Nat → Int32 → Int32 → Int32 → Int32 → cM → Option (Int32 × cM) := fun x0 x1 x2 x3 x4 M =>
  if x1 = (0 : Int32) then (
  (fR M x0 9 0).bind fun v3 =>
  (f_X0_constOf F v3 M).bind fun v4 =>
  some (v4.1, v4.2))
  else (
  if x1 = (1 : Int32) then (
  (f_X0_cut F x2 x3 x4 M).bind fun v2 =>
  some (v2.1, v2.2))
  else (
  if x1 = (2 : Int32) then (
  (f_X0_each F x2 x3 x4 M).bind fun v1 =>
  some (v1.1, v1.2))
  else (
  some ((-1 : Int32), M))))
def f_X11_atomToPin_0 (F : Nat) : Nat → Int32 → Int32 → Int32 → Int32 → cM → Option (Int32 × cM) := fun x0 x1 x2 x3 x4 M => b_X11_atomToPin_0 F x0 x1 x2 x3 x4 M
def f_X11_atomToPin (F : Nat) : Nat → Int32 → Int32 → Int32 → Int32 → cM → Option (Int32 × cM) := fun a0 a1 a2 a3 a4 M => if isC M a0 9 = true then f_X11_atomToPin_0 F a0 a1 a2 a3 a4 M else none
-- PatchbayScript.pin(IIIIII)I
def b_X11_pin_123 (F : Nat) : Nat → Int32 → Int32 → Int32 → Int32 → Int32 → Int32 → cM → Option (Nat × Int32 × cM) := fun x0 x1 x2 x3 x4 x5 x6 M =>
  (fR M x0 9 2).bind fun v1 =>
  (aR M v1 x1).bind fun v2 =>
  (f_X11_atomToPin F x0 x3 x4 x5 x6 M).bind fun v3 =>
  (f_X9_setPin F v2 x2 v3.1 v3.2).bind fun v4 =>
  if x3 = 0 then (
  (fR v4 x0 9 0).bind fun v5 =>
  (f_X10_clear F v5 v4).bind fun v6 =>
  (fR v6 x0 9 2).bind fun v7 =>
  (aR v6 v7 x1).bind fun v8 =>
  (f_X9_pinCount F v8 v6).bind fun v9 =>
  some (0, v9.1, v9.2))
  else (
  (fR v4 x0 9 2).bind fun v10 =>
  (aR v4 v10 x1).bind fun v11 =>
  (f_X9_pinCount F v11 v4).bind fun v12 =>
  some (0, v12.1, v12.2))
def f_X11_pin_123 (F : Nat) : Nat → Int32 → Int32 → Int32 → Int32 → Int32 → Int32 → cM → Option (Nat × Int32 × cM) := fun x0 x1 x2 x3 x4 x5 x6 M => b_X11_pin_123 F x0 x1 x2 x3 x4 x5 x6 M
def b_X11_pin_88 (F : Nat) (t123 : Nat → Int32 → Int32 → Int32 → Int32 → Int32 → Int32 → cM → Option (Nat × Int32 × cM)) : Nat → Int32 → Int32 → Int32 → Int32 → Int32 → Int32 → cM → Option (Nat × Int32 × cM) := fun x0 x1 x2 x3 x4 x5 x6 M =>
  if x3 = 0 then (
  (fR M x0 9 0).bind fun v1 =>
  (fI M v1 8 2).bind fun v2 =>
  if v2 = 0 then (
  kxTI 2 M)
  else (
  (fR M x0 9 0).bind fun v3 =>
  (fI M v3 8 2).bind fun v4 =>
  if v4 ≤ (4 : Int32) then (
  t123 x0 x1 x2 x3 x4 x5 x6 M)
  else (
  kxTI 2 M)))
  else (
  t123 x0 x1 x2 x3 x4 x5 x6 M)
def f_X11_pin_88 (F : Nat) : Nat → Int32 → Int32 → Int32 → Int32 → Int32 → Int32 → cM → Option (Nat × Int32 × cM) := fun x0 x1 x2 x3 x4 x5 x6 M => b_X11_pin_88 F (f_X11_pin_123 F) x0 x1 x2 x3 x4 x5 x6 M
def b_X11_pin_61 (F : Nat) (t88 : Nat → Int32 → Int32 → Int32 → Int32 → Int32 → Int32 → cM → Option (Nat × Int32 × cM)) : Nat → Int32 → Int32 → Int32 → Int32 → Int32 → Int32 → cM → Option (Nat × Int32 × cM) := fun x0 x1 x2 x3 x4 x5 x6 M =>
  if x3 = (2 : Int32) then (
  (f_X0_isEach F x4 x5 x6 M).bind fun v1 =>
  if v1.1 = 0 then (
  kxTI 1 v1.2)
  else (
  t88 x0 x1 x2 x3 x4 x5 x6 v1.2))
  else (
  t88 x0 x1 x2 x3 x4 x5 x6 M)
def f_X11_pin_61 (F : Nat) : Nat → Int32 → Int32 → Int32 → Int32 → Int32 → Int32 → cM → Option (Nat × Int32 × cM) := fun x0 x1 x2 x3 x4 x5 x6 M => b_X11_pin_61 F (f_X11_pin_88 F) x0 x1 x2 x3 x4 x5 x6 M
def b_X11_pin_0 (F : Nat) (t61 : Nat → Int32 → Int32 → Int32 → Int32 → Int32 → Int32 → cM → Option (Nat × Int32 × cM)) : Nat → Int32 → Int32 → Int32 → Int32 → Int32 → Int32 → cM → Option (Nat × Int32 × cM) := fun x0 x1 x2 x3 x4 x5 x6 M =>
  (f_X11_needTask F x0 x1 M).bind fun v1 =>
  if v1.1 = 0 then (
  if x2 < 0 then (
  kxTI 3 v1.2)
  else (
  if x2 < (4 : Int32) then (
  if x3 < (-1 : Int32) then (
  kxTI 1 v1.2)
  else (
  if x3 ≤ (2 : Int32) then (
  if x3 = (1 : Int32) then (
  (f_X0_isCut F x4 x5 x6 v1.2).bind fun v2 =>
  if v2.1 = 0 then (
  kxTI 1 v2.2)
  else (
  t61 x0 x1 x2 x3 x4 x5 x6 v2.2))
  else (
  t61 x0 x1 x2 x3 x4 x5 x6 v1.2))
  else (
  kxTI 1 v1.2)))
  else (
  kxTI 3 v1.2)))
  else kxTI v1.1 v1.2
def f_X11_pin_0 (F : Nat) : Nat → Int32 → Int32 → Int32 → Int32 → Int32 → Int32 → cM → Option (Nat × Int32 × cM) := fun x0 x1 x2 x3 x4 x5 x6 M => b_X11_pin_0 F (f_X11_pin_61 F) x0 x1 x2 x3 x4 x5 x6 M
def f_X11_pin (F : Nat) : Nat → Int32 → Int32 → Int32 → Int32 → Int32 → Int32 → cM → Option (Nat × Int32 × cM) := fun a0 a1 a2 a3 a4 a5 a6 M => if isC M a0 9 = true then f_X11_pin_0 F a0 a1 a2 a3 a4 a5 a6 M else none
-- PatchbayScript.learn(I)I
def b_X11_learn_69 (F : Nat) : Nat → Int32 → cM → Option (Nat × Int32 × cM) := fun x0 x1 M =>
  (fR M x0 9 2).bind fun v1 =>
  (aR M v1 x1).bind fun v2 =>
  (fR M v2 7 8).bind fun v3 =>
  (fI M v3 3 2).bind fun v4 =>
  if v4 = 0 then (
  (fR M x0 9 2).bind fun v5 =>
  (aR M v5 x1).bind fun v6 =>
  (pF M v6 7 9 (.int (0 : Int32))).bind fun M7 =>
  some (0, (-1 : Int32), M7))
  else (
  (fR M x0 9 2).bind fun v8 =>
  (aR M v8 x1).bind fun v9 =>
  (fR M v9 7 8).bind fun v10 =>
  (f_X4_sum F v10 M).bind fun v11 =>
  some (0, v11.1, v11.2))
def f_X11_learn_69 (F : Nat) : Nat → Int32 → cM → Option (Nat × Int32 × cM) := fun x0 x1 M => b_X11_learn_69 F x0 x1 M
def b_X11_learn_0 (F : Nat) (t69 : Nat → Int32 → cM → Option (Nat × Int32 × cM)) : Nat → Int32 → cM → Option (Nat × Int32 × cM) := fun x0 x1 M =>
  (f_X11_needTask F x0 x1 M).bind fun v1 =>
  if v1.1 = 0 then (
  (fR v1.2 x0 9 2).bind fun v2 =>
  (aR v1.2 v2 x1).bind fun v3 =>
  (fI v1.2 v3 7 3).bind fun v4 =>
  if v4 = 0 then (
  kxTI 2 v1.2)
  else (
  (fR v1.2 x0 9 6).bind fun v5 =>
  (fR v1.2 x0 9 2).bind fun v6 =>
  (aR v1.2 v6 x1).bind fun v7 =>
  (f_X3_findBest F v5 v7 v1.2).bind fun v8 =>
  (fR v8 x0 9 6).bind fun v9 =>
  (fR v8 x0 9 2).bind fun v10 =>
  (aR v8 v10 x1).bind fun v11 =>
  (f_X3_learnBest F v9 v11 v8).bind fun v12 =>
  if v12.1 = 0 then (
  (fR v12.2 x0 9 6).bind fun v13 =>
  (fR v12.2 x0 9 2).bind fun v14 =>
  (aR v12.2 v14 x1).bind fun v15 =>
  (f_X3_learnParted F v13 v15 v12.2).bind fun v16 =>
  t69 x0 x1 v16)
  else (
  t69 x0 x1 v12.2)))
  else kxTI v1.1 v1.2
def f_X11_learn_0 (F : Nat) : Nat → Int32 → cM → Option (Nat × Int32 × cM) := fun x0 x1 M => b_X11_learn_0 F (f_X11_learn_69 F) x0 x1 M
def f_X11_learn (F : Nat) : Nat → Int32 → cM → Option (Nat × Int32 × cM) := fun a0 a1 M => if isC M a0 9 = true then f_X11_learn_0 F a0 a1 M else none
-- PatchbayScript.count(I)I
def b_X11_count_0 (F : Nat) : Nat → Int32 → cM → Option (Nat × Int32 × cM) := fun x0 x1 M =>
  (f_X11_needTask F x0 x1 M).bind fun v1 =>
  if v1.1 = 0 then (
  (fR v1.2 x0 9 6).bind fun v2 =>
  (fR v1.2 x0 9 2).bind fun v3 =>
  (aR v1.2 v3 x1).bind fun v4 =>
  (f_X3_findBest F v2 v4 v1.2).bind fun v5 =>
  (fR v5 x0 9 2).bind fun v6 =>
  (aR v5 v6 x1).bind fun v7 =>
  (fI v5 v7 7 11).bind fun v8 =>
  some (0, v8, v5))
  else kxTI v1.1 v1.2
def f_X11_count_0 (F : Nat) : Nat → Int32 → cM → Option (Nat × Int32 × cM) := fun x0 x1 M => b_X11_count_0 F x0 x1 M
def f_X11_count (F : Nat) : Nat → Int32 → cM → Option (Nat × Int32 × cM) := fun a0 a1 M => if isC M a0 9 = true then f_X11_count_0 F a0 a1 M else none
-- PatchbayScript.weight(II)I
def b_X11_weight_0 (F : Nat) : Nat → Int32 → Int32 → cM → Option (Nat × Int32 × cM) := fun x0 x1 x2 M =>
  (f_X11_needTask F x0 x1 M).bind fun v1 =>
  if v1.1 = 0 then (
  (fR v1.2 x0 9 6).bind fun v2 =>
  (fR v1.2 x0 9 2).bind fun v3 =>
  (aR v1.2 v3 x1).bind fun v4 =>
  (f_X3_findBest F v2 v4 v1.2).bind fun v5 =>
  if x2 < 0 then (
  kxTI 3 v5)
  else (
  (fR v5 x0 9 2).bind fun v6 =>
  (aR v5 v6 x1).bind fun v7 =>
  (fI v5 v7 7 11).bind fun v8 =>
  if x2 < v8 then (
  (fR v5 x0 9 2).bind fun v9 =>
  (aR v5 v9 x1).bind fun v10 =>
  (fR v5 v10 7 10).bind fun v11 =>
  (aR v5 v11 x2).bind fun v12 =>
  (f_X6_sum F v12 v5).bind fun v13 =>
  some (0, v13.1, v13.2))
  else (
  kxTI 3 v5)))
  else kxTI v1.1 v1.2
def f_X11_weight_0 (F : Nat) : Nat → Int32 → Int32 → cM → Option (Nat × Int32 × cM) := fun x0 x1 x2 M => b_X11_weight_0 F x0 x1 x2 M
def f_X11_weight (F : Nat) : Nat → Int32 → Int32 → cM → Option (Nat × Int32 × cM) := fun a0 a1 a2 M => if isC M a0 9 = true then f_X11_weight_0 F a0 a1 a2 M else none
-- PatchbayScript.question(I)I
def b_X11_question_20 (F : Nat) (t20 : Nat → Int32 → Int32 → cM → Option (Nat × Int32 × cM)) : Nat → Int32 → Int32 → cM → Option (Nat × Int32 × cM) := fun x0 x1 x2 M =>
  (fI M x0 9 7).bind fun v1 =>
  if v1 ≤ x2 then (
  some (0, (-1 : Int32), M))
  else (
  (fR M x0 9 2).bind fun v2 =>
  (aR M v2 x1).bind fun v3 =>
  (f_X9_hasExampleOn F v3 x2 M).bind fun v4 =>
  if v4.1 = 0 then (
  (fR v4.2 x0 9 6).bind fun v5 =>
  (fR v4.2 x0 9 2).bind fun v6 =>
  (aR v4.2 v6 x1).bind fun v7 =>
  (fR v4.2 x0 9 3).bind fun v8 =>
  (aR v4.2 v8 x2).bind fun v9 =>
  (fR v4.2 v9 4 1).bind fun v10 =>
  (f_X3_bestDiffer F v5 v7 v10 v4.2).bind fun v11 =>
  if v11.1 = 0 then (
  t20 x0 x1 (x2 + (1 : Int32)) v11.2)
  else (
  some (0, x2, v11.2)))
  else (
  t20 x0 x1 (x2 + (1 : Int32)) v4.2))
def f_X11_question_20 (F : Nat) : Nat → Nat → Int32 → Int32 → cM → Option (Nat × Int32 × cM) := fun n => Nat.rec (fun _ _ _ _ => none) (fun _ ih x0 x1 x2 M => b_X11_question_20 F (ih) x0 x1 x2 M) n
def b_X11_question_0 (F : Nat) (t20 : Nat → Int32 → Int32 → cM → Option (Nat × Int32 × cM)) : Nat → Int32 → cM → Option (Nat × Int32 × cM) := fun x0 x1 M =>
  (f_X11_needTask F x0 x1 M).bind fun v1 =>
  if v1.1 = 0 then (
  (fR v1.2 x0 9 6).bind fun v2 =>
  (fR v1.2 x0 9 2).bind fun v3 =>
  (aR v1.2 v3 x1).bind fun v4 =>
  (f_X3_findBest F v2 v4 v1.2).bind fun v5 =>
  t20 x0 x1 (0 : Int32) v5)
  else kxTI v1.1 v1.2
def f_X11_question_0 (F : Nat) : Nat → Int32 → cM → Option (Nat × Int32 × cM) := fun x0 x1 M => b_X11_question_0 F (f_X11_question_20 F F) x0 x1 M
def f_X11_question (F : Nat) : Nat → Int32 → cM → Option (Nat × Int32 × cM) := fun a0 a1 M => if isC M a0 9 = true then f_X11_question_0 F a0 a1 M else none
-- PatchbayScript.condition(I)I
def b_X11_condition_0 (F : Nat) : Nat → Int32 → cM → Option (Nat × Int32 × cM) := fun x0 x1 M =>
  (f_X11_needTask F x0 x1 M).bind fun v1 =>
  if v1.1 = 0 then (
  (fR v1.2 x0 9 2).bind fun v2 =>
  (aR v1.2 v2 x1).bind fun v3 =>
  (fR v1.2 v3 7 8).bind fun v4 =>
  (fI v1.2 v4 3 2).bind fun v5 =>
  if v5 = 0 then (
  some (0, (-1 : Int32), v1.2))
  else (
  (fR v1.2 x0 9 2).bind fun v6 =>
  (aR v1.2 v6 x1).bind fun v7 =>
  (fR v1.2 v7 7 8).bind fun v8 =>
  (fI v1.2 v8 3 3).bind fun v9 =>
  some (0, v9, v1.2)))
  else kxTI v1.1 v1.2
def f_X11_condition_0 (F : Nat) : Nat → Int32 → cM → Option (Nat × Int32 × cM) := fun x0 x1 M => b_X11_condition_0 F x0 x1 M
def f_X11_condition (F : Nat) : Nat → Int32 → cM → Option (Nat × Int32 × cM) := fun a0 a1 M => if isC M a0 9 = true then f_X11_condition_0 F a0 a1 M else none
-- PatchbayScript.atomAt(IZII)I
def b_X11_atomAt_91 (F : Nat) : Int32 → Int32 → Nat → cM → Option (Nat × Int32 × cM) := fun x3 x4 s0 M =>
  (fI M s0 5 1).bind fun v1 =>
  if v1 ≤ x3 then (
  some (0, (-1 : Int32), M))
  else (
  if (4 : Int32) ≤ x3 then (
  some (0, (-1 : Int32), M))
  else (
  (fR M s0 5 0).bind fun v2 =>
  (aI 0 M v2 x3).bind fun v3 =>
  (f_X0_numberOf F v3 x4 M).bind fun v4 =>
  some (0, v4.1, v4.2)))
def f_X11_atomAt_91 (F : Nat) : Int32 → Int32 → Nat → cM → Option (Nat × Int32 × cM) := fun x3 x4 s0 M => b_X11_atomAt_91 F x3 x4 s0 M
def b_X11_atomAt_0 (F : Nat) (t91 : Int32 → Int32 → Nat → cM → Option (Nat × Int32 × cM)) : Nat → Int32 → Int32 → Int32 → Int32 → cM → Option (Nat × Int32 × cM) := fun x0 x1 x2 x3 x4 M =>
  (f_X11_needTask F x0 x1 M).bind fun v1 =>
  if v1.1 = 0 then (
  if 0 ≤ x3 then (
  if x4 < 0 then (
  kxTI 1 v1.2)
  else (
  if x4 ≤ (4 : Int32) then (
  (fR v1.2 x0 9 2).bind fun v2 =>
  (aR v1.2 v2 x1).bind fun v3 =>
  (fR v1.2 v3 7 8).bind fun v4 =>
  (fI v1.2 v4 3 2).bind fun v5 =>
  if v5 = 0 then (
  some (0, (-1 : Int32), v1.2))
  else (
  if x2 = 0 then (
  if x2 = 0 then (
  (fR v1.2 v4 3 0).bind fun v6 =>
  t91 x3 x4 v6 v1.2)
  else (
  (fR v1.2 v4 3 1).bind fun v7 =>
  t91 x3 x4 v7 v1.2))
  else (
  (fI v1.2 v4 3 3).bind fun v8 =>
  if v8 = (-1 : Int32) then (
  some (0, (-1 : Int32), v1.2))
  else (
  if x2 = 0 then (
  (fR v1.2 v4 3 0).bind fun v9 =>
  t91 x3 x4 v9 v1.2)
  else (
  (fR v1.2 v4 3 1).bind fun v10 =>
  t91 x3 x4 v10 v1.2)))))
  else (
  kxTI 1 v1.2)))
  else (
  kxTI 3 v1.2))
  else kxTI v1.1 v1.2
def f_X11_atomAt_0 (F : Nat) : Nat → Int32 → Int32 → Int32 → Int32 → cM → Option (Nat × Int32 × cM) := fun x0 x1 x2 x3 x4 M => b_X11_atomAt_0 F (f_X11_atomAt_91 F) x0 x1 x2 x3 x4 M
def f_X11_atomAt (F : Nat) : Nat → Int32 → Int32 → Int32 → Int32 → cM → Option (Nat × Int32 × cM) := fun a0 a1 a2 a3 a4 M => if isC M a0 9 = true then f_X11_atomAt_0 F a0 a1 a2 a3 a4 M else none
-- PatchbayScript.preview(III)C
def b_X11_preview_0 (F : Nat) : Nat → Int32 → Int32 → Int32 → cM → Option (Nat × Int32 × cM) := fun x0 x1 x2 x3 M =>
  (f_X11_needTask F x0 x1 M).bind fun v1 =>
  if v1.1 = 0 then (
  (f_X11_needLine F x0 x2 v1.2).bind fun v2 =>
  if v2.1 = 0 then (
  if 0 ≤ x3 then (
  (fR v2.2 x0 9 2).bind fun v3 =>
  (aR v2.2 v3 x1).bind fun v4 =>
  (fR v2.2 v4 7 8).bind fun v5 =>
  (fR v2.2 x0 9 3).bind fun v6 =>
  (aR v2.2 v6 x2).bind fun v7 =>
  (fR v2.2 v7 4 1).bind fun v8 =>
  (fR v2.2 x0 9 1).bind fun v9 =>
  (f_X4_makes F v5 v8 v9 v2.2).bind fun v10 =>
  if v10.1 = 0 then (
  some (0, (63 : Int32), v10.2))
  else (
  (fR v10.2 x0 9 1).bind fun v11 =>
  (fI v10.2 v11 8 2).bind fun v12 =>
  if v12 ≤ x3 then (
  some (0, (33 : Int32), v10.2))
  else (
  (fR v10.2 x0 9 1).bind fun v13 =>
  (f_X10_at F v13 x3 v10.2).bind fun v14 =>
  if vp_nar .char v14.1 = v14.1 then some (0, v14.1, v14.2) else none)))
  else (
  kxTI 3 v2.2))
  else kxTI v2.1 v2.2)
  else kxTI v1.1 v1.2
def f_X11_preview_0 (F : Nat) : Nat → Int32 → Int32 → Int32 → cM → Option (Nat × Int32 × cM) := fun x0 x1 x2 x3 M => b_X11_preview_0 F x0 x1 x2 x3 M
def f_X11_preview (F : Nat) : Nat → Int32 → Int32 → Int32 → cM → Option (Nat × Int32 × cM) := fun a0 a1 a2 a3 M => if isC M a0 9 = true then f_X11_preview_0 F a0 a1 a2 a3 M else none
-- PatchbayScript.run(IIII)I
def b_X11_run_0 (F : Nat) : Nat → Int32 → Int32 → Int32 → Int32 → cM → Option (Nat × Int32 × cM) := fun x0 x1 x2 x3 x4 M =>
  (f_X11_needTask F x0 x1 M).bind fun v1 =>
  if v1.1 = 0 then (
  (f_X11_needLine F x0 x2 v1.2).bind fun v2 =>
  if v2.1 = 0 then (
  (f_X11_needLine F x0 x3 v2.2).bind fun v3 =>
  if v3.1 = 0 then (
  if x3 < x2 then (
  kxTI 1 v3.2)
  else (
  if x4 < 0 then (
  kxTI 1 v3.2)
  else (
  if x4 ≤ (2 : Int32) then (
  (fR v3.2 x0 9 2).bind fun v4 =>
  (aR v3.2 v4 x1).bind fun v5 =>
  (fR v3.2 v5 7 8).bind fun v6 =>
  (fI v3.2 v6 3 2).bind fun v7 =>
  if v7 = 0 then (
  kxTI 2 v3.2)
  else (
  (fI v3.2 x0 9 8).bind fun v8 =>
  if v8 < (30 : Int32) then (
  (fR v3.2 x0 9 2).bind fun v9 =>
  (aR v3.2 v9 x1).bind fun v10 =>
  (f_X11_runOn F x0 v10 x2 x3 x4 v3.2).bind fun v11 =>
  some (0, v11.1, v11.2))
  else (
  kxTI 2 v3.2)))
  else (
  kxTI 1 v3.2))))
  else kxTI v3.1 v3.2)
  else kxTI v2.1 v2.2)
  else kxTI v1.1 v1.2
def f_X11_run_0 (F : Nat) : Nat → Int32 → Int32 → Int32 → Int32 → cM → Option (Nat × Int32 × cM) := fun x0 x1 x2 x3 x4 M => b_X11_run_0 F x0 x1 x2 x3 x4 M
def f_X11_run (F : Nat) : Nat → Int32 → Int32 → Int32 → Int32 → cM → Option (Nat × Int32 × cM) := fun a0 a1 a2 a3 a4 M => if isC M a0 9 = true then f_X11_run_0 F a0 a1 a2 a3 a4 M else none
-- PatchbayScript.runs()I
def b_X11_runs_0 (F : Nat) : Nat → cM → Option (Int32 × cM) := fun x0 M =>
  (fI M x0 9 8).bind fun v1 =>
  some (v1, M)
def f_X11_runs_0 (F : Nat) : Nat → cM → Option (Int32 × cM) := fun x0 M => b_X11_runs_0 F x0 M
def f_X11_runs (F : Nat) : Nat → cM → Option (Int32 × cM) := fun a0 M => if isC M a0 9 = true then f_X11_runs_0 F a0 M else none
-- PatchbayScript.shownAt(I)LPatchbayScript$Text;
def b_X11_shownAt_5 (F : Nat) : Nat → Int32 → Int32 → cM → Option (Nat × cM) := fun x0 x1 x2 M =>
  (f_X5_exampleOfStep F x1 M).bind fun v1 =>
  if (3 : Int32) ≤ x2 then (
  (fR v1.2 x0 9 1).bind fun v2 =>
  some (v2, v1.2))
  else (
  (fR v1.2 x0 9 2).bind fun v3 =>
  (aR v1.2 v3 x2).bind fun v4 =>
  (fR v1.2 v4 7 1).bind fun v5 =>
  (aR v1.2 v5 v1.1).bind fun v6 =>
  some (v6, v1.2))
def f_X11_shownAt_5 (F : Nat) : Nat → Int32 → Int32 → cM → Option (Nat × cM) := fun x0 x1 x2 M => b_X11_shownAt_5 F x0 x1 x2 M
def b_X11_shownAt_0 (F : Nat) (t5 : Nat → Int32 → Int32 → cM → Option (Nat × cM)) : Nat → Int32 → cM → Option (Nat × cM) := fun x0 x1 M =>
  (f_X5_taskOfStep F x1 M).bind fun v1 =>
  t5 x0 x1 v1.1 v1.2
def f_X11_shownAt_0 (F : Nat) : Nat → Int32 → cM → Option (Nat × cM) := fun x0 x1 M => b_X11_shownAt_0 F (f_X11_shownAt_5 F) x0 x1 M
def f_X11_shownAt (F : Nat) : Nat → Int32 → cM → Option (Nat × cM) := fun a0 a1 M => if isC M a0 9 = true then f_X11_shownAt_0 F a0 a1 M else none
-- PatchbayScript.makeAgain(LPatchbayScript$Line;)V
def b_X11_makeAgain_13 (F : Nat) (t13 : Nat → Nat → Int32 → cM → Option (cM)) : Nat → Nat → Int32 → cM → Option (cM) := fun x0 x1 x2 M =>
  (fI M x1 4 3).bind fun v1 =>
  if v1 ≤ x2 then (
  some M)
  else (
  (fR M x1 4 2).bind fun v2 =>
  (aI 0 M v2 x2).bind fun v3 =>
  if 0 ≤ v3 then (
  if (30 : Int32) ≤ v3 then (
  t13 x0 x1 (x2 + (1 : Int32)) M)
  else (
  (fR M x0 9 5).bind fun v4 =>
  (aI 3 M v4 v3).bind fun v5 =>
  if v5 = 0 then (
  t13 x0 x1 (x2 + (1 : Int32)) M)
  else (
  (fR M x0 9 4).bind fun v6 =>
  (aR M v6 v3).bind fun v7 =>
  (fR M x1 4 1).bind fun v8 =>
  (fR M x0 9 1).bind fun v9 =>
  (f_X4_makes F v7 v8 v9 M).bind fun v10 =>
  if v10.1 = 0 then (
  t13 x0 x1 (x2 + (1 : Int32)) v10.2)
  else (
  (fR v10.2 x1 4 1).bind fun v11 =>
  (fR v10.2 x0 9 1).bind fun v12 =>
  (f_X10_set F v11 v12 v10.2).bind fun v13 =>
  t13 x0 x1 (x2 + (1 : Int32)) v13))))
  else (
  (fR M x1 4 1).bind fun v14 =>
  (f_X11_shownAt F x0 v3 M).bind fun v15 =>
  (f_X10_set F v14 v15.1 v15.2).bind fun v16 =>
  t13 x0 x1 (x2 + (1 : Int32)) v16))
def f_X11_makeAgain_13 (F : Nat) : Nat → Nat → Nat → Int32 → cM → Option (cM) := fun n => Nat.rec (fun _ _ _ _ => none) (fun _ ih x0 x1 x2 M => b_X11_makeAgain_13 F (ih) x0 x1 x2 M) n
def b_X11_makeAgain_0 (F : Nat) (t13 : Nat → Nat → Int32 → cM → Option (cM)) : Nat → Nat → cM → Option (cM) := fun x0 x1 M =>
  (fR M x1 4 1).bind fun v1 =>
  (fR M x1 4 0).bind fun v2 =>
  (f_X10_set F v1 v2 M).bind fun v3 =>
  t13 x0 x1 (0 : Int32) v3
def f_X11_makeAgain_0 (F : Nat) : Nat → Nat → cM → Option (cM) := fun x0 x1 M => b_X11_makeAgain_0 F (f_X11_makeAgain_13 F F) x0 x1 M
def f_X11_makeAgain (F : Nat) : Nat → Nat → cM → Option (cM) := fun a0 a1 M => if isC M a0 9 = true then f_X11_makeAgain_0 F a0 a1 M else none
-- PatchbayScript.undo(I)Z
def b_X11_undo_51 (F : Nat) (t51 : Nat → Int32 → Int32 → cM → Option (Nat × Int32 × cM)) : Nat → Int32 → Int32 → cM → Option (Nat × Int32 × cM) := fun x0 x1 x2 M =>
  (fI M x0 9 7).bind fun v1 =>
  if v1 ≤ x2 then (
  (fR M x0 9 5).bind fun v2 =>
  (aI 3 M v2 x1).bind fun v3 =>
  if v3 = 0 ∨ v3 = 1 then some (0, v3, M) else none)
  else (
  (fR M x0 9 3).bind fun v4 =>
  (aR M v4 x2).bind fun v5 =>
  (f_X5_hasStep F v5 x1 M).bind fun v6 =>
  if v6.1 = 0 then (
  t51 x0 x1 (x2 + (1 : Int32)) v6.2)
  else (
  (fR v6.2 x0 9 3).bind fun v7 =>
  (aR v6.2 v7 x2).bind fun v8 =>
  (f_X11_makeAgain F x0 v8 v6.2).bind fun v9 =>
  t51 x0 x1 (x2 + (1 : Int32)) v9))
def f_X11_undo_51 (F : Nat) : Nat → Nat → Int32 → Int32 → cM → Option (Nat × Int32 × cM) := fun n => Nat.rec (fun _ _ _ _ => none) (fun _ ih x0 x1 x2 M => b_X11_undo_51 F (ih) x0 x1 x2 M) n
def b_X11_undo_0 (F : Nat) (t51 : Nat → Int32 → Int32 → cM → Option (Nat × Int32 × cM)) : Nat → Int32 → cM → Option (Nat × Int32 × cM) := fun x0 x1 M =>
  if x1 < 0 then (
  kxTI 3 M)
  else (
  (fI M x0 9 8).bind fun v1 =>
  if v1 ≤ x1 then (
  kxTI 3 M)
  else (
  if x1 < (30 : Int32) then (
  (fR M x0 9 5).bind fun v2 =>
  (fR M x0 9 5).bind fun v3 =>
  (aI 3 M v3 x1).bind fun v4 =>
  if v4 = 0 then (
  (sI 3 M v2 x1 (1 : Int32)).bind fun M5 =>
  t51 x0 x1 (0 : Int32) M5)
  else (
  (sI 3 M v2 x1 (0 : Int32)).bind fun M6 =>
  t51 x0 x1 (0 : Int32) M6))
  else (
  kxTI 3 M)))
def f_X11_undo_0 (F : Nat) : Nat → Int32 → cM → Option (Nat × Int32 × cM) := fun x0 x1 M => b_X11_undo_0 F (f_X11_undo_51 F F) x0 x1 M
def f_X11_undo (F : Nat) : Nat → Int32 → cM → Option (Nat × Int32 × cM) := fun a0 a1 M => if isC M a0 9 = true then f_X11_undo_0 F a0 a1 M else none
-- PatchbayScript.stand(IZ)Z
def b_X11_stand_35 (F : Nat) : Nat → Int32 → Int32 → cM → Option (Nat × Int32 × cM) := fun x0 x1 x2 M =>
  (fR M x0 9 2).bind fun v1 =>
  (aR M v1 x1).bind fun v2 =>
  (fI M v2 7 9).bind fun v3 =>
  (fR M x0 9 2).bind fun v4 =>
  (aR M v4 x1).bind fun v5 =>
  if x2 = 0 ∨ x2 = 1 then (
  (pF M v5 7 9 (.int x2)).bind fun M6 =>
  if v3 = 0 ∨ v3 = 1 then some (0, v3, M6) else none)
  else none
def f_X11_stand_35 (F : Nat) : Nat → Int32 → Int32 → cM → Option (Nat × Int32 × cM) := fun x0 x1 x2 M => b_X11_stand_35 F x0 x1 x2 M
def b_X11_stand_0 (F : Nat) (t35 : Nat → Int32 → Int32 → cM → Option (Nat × Int32 × cM)) : Nat → Int32 → Int32 → cM → Option (Nat × Int32 × cM) := fun x0 x1 x2 M =>
  (f_X11_needTask F x0 x1 M).bind fun v1 =>
  if v1.1 = 0 then (
  if x2 = 0 then (
  t35 x0 x1 x2 v1.2)
  else (
  (fR v1.2 x0 9 2).bind fun v2 =>
  (aR v1.2 v2 x1).bind fun v3 =>
  (fR v1.2 v3 7 8).bind fun v4 =>
  (fI v1.2 v4 3 2).bind fun v5 =>
  if v5 = 0 then (
  kxTI 2 v1.2)
  else (
  t35 x0 x1 x2 v1.2)))
  else kxTI v1.1 v1.2
def f_X11_stand_0 (F : Nat) : Nat → Int32 → Int32 → cM → Option (Nat × Int32 × cM) := fun x0 x1 x2 M => b_X11_stand_0 F (f_X11_stand_35 F) x0 x1 x2 M
def f_X11_stand (F : Nat) : Nat → Int32 → Int32 → cM → Option (Nat × Int32 × cM) := fun a0 a1 a2 M => if isC M a0 9 = true then f_X11_stand_0 F a0 a1 a2 M else none
-- PatchbayScript.asked()I
def b_X11_asked_0 (F : Nat) : Nat → cM → Option (Int32 × cM) := fun x0 M =>
  (fI M x0 9 9).bind fun v1 =>
  (pF M x0 9 9 (.int (0 : Int32))).bind fun M2 =>
  some (v1, M2)
def f_X11_asked_0 (F : Nat) : Nat → cM → Option (Int32 × cM) := fun x0 M => b_X11_asked_0 F x0 M
def f_X11_asked (F : Nat) : Nat → cM → Option (Int32 × cM) := fun a0 M => if isC M a0 9 = true then f_X11_asked_0 F a0 M else none
-- PatchbayScriptModel.thrown()I
def b_X12_thrown_0 (F : Nat) : Nat → cM → Option (Int32 × cM) := fun x0 M =>
  (fI M x0 10 0).bind fun v1 =>
  some (v1, M)
def f_X12_thrown_0 (F : Nat) : Nat → cM → Option (Int32 × cM) := fun x0 M => b_X12_thrown_0 F x0 M
def f_X12_thrown (F : Nat) : Nat → cM → Option (Int32 × cM) := fun a0 M => if isC M a0 10 = true then f_X12_thrown_0 F a0 M else none
-- PatchbayScriptModel.fails(I)I
def b_X12_fails_0 (F : Nat) : Nat → Int32 → cM → Option (Int32 × cM) := fun x0 x1 M =>
  (pF M x0 10 0 (.int x1)).bind fun M1 =>
  some ((0 : Int32), M1)
def f_X12_fails_0 (F : Nat) : Nat → Int32 → cM → Option (Int32 × cM) := fun x0 x1 M => b_X12_fails_0 F x0 x1 M
def f_X12_fails (F : Nat) : Nat → Int32 → cM → Option (Int32 × cM) := fun a0 a1 M => if isC M a0 10 = true then f_X12_fails_0 F a0 a1 M else none
-- PatchbayScriptModel.isIn(III)Z
def b_X12_isIn_0 (F : Nat) : Int32 → Int32 → Int32 → cM → Option (Int32 × cM) := fun x0 x1 x2 M =>
  if x0 < x1 then (
  some ((0 : Int32), M))
  else (
  if x2 < x0 then (
  some ((0 : Int32), M))
  else (
  some ((1 : Int32), M)))
def f_X12_isIn_0 (F : Nat) : Int32 → Int32 → Int32 → cM → Option (Int32 × cM) := fun x0 x1 x2 M => b_X12_isIn_0 F x0 x1 x2 M
def f_X12_isIn (F : Nat) : Int32 → Int32 → Int32 → cM → Option (Int32 × cM) := fun a0 a1 a2 M => f_X12_isIn_0 F a0 a1 a2 M
-- PatchbayScriptModel.isTask(I)Z
def b_X12_isTask_0 (F : Nat) : Int32 → cM → Option (Int32 × cM) := fun x0 M =>
  (f_X12_isIn F x0 (0 : Int32) (2 : Int32) M).bind fun v1 =>
  if v1.1 = 0 ∨ v1.1 = 1 then some (v1.1, v1.2) else none
def f_X12_isTask_0 (F : Nat) : Int32 → cM → Option (Int32 × cM) := fun x0 M => b_X12_isTask_0 F x0 M
def f_X12_isTask (F : Nat) : Int32 → cM → Option (Int32 × cM) := fun a0 M => f_X12_isTask_0 F a0 M
-- PatchbayScriptModel.isLine(I)Z
def b_X12_isLine_0 (F : Nat) : Nat → Int32 → cM → Option (Int32 × cM) := fun x0 x1 M =>
  (fI M x0 10 3).bind fun v1 =>
  (f_X12_isIn F x1 (0 : Int32) (v1 - (1 : Int32)) M).bind fun v2 =>
  if v2.1 = 0 ∨ v2.1 = 1 then some (v2.1, v2.2) else none
def f_X12_isLine_0 (F : Nat) : Nat → Int32 → cM → Option (Int32 × cM) := fun x0 x1 M => b_X12_isLine_0 F x0 x1 M
def f_X12_isLine (F : Nat) : Nat → Int32 → cM → Option (Int32 × cM) := fun a0 a1 M => if isC M a0 10 = true then f_X12_isLine_0 F a0 a1 M else none
-- PatchbayScriptModel.isLetter(I)Z
def b_X12_isLetter_0 (F : Nat) : Int32 → cM → Option (Int32 × cM) := fun x0 M =>
  (f_X12_isIn F x0 (97 : Int32) (122 : Int32) M).bind fun v1 =>
  if v1.1 = 0 then (
  (f_X12_isIn F x0 (65 : Int32) (90 : Int32) v1.2).bind fun v2 =>
  if v2.1 = 0 then (
  some ((0 : Int32), v2.2))
  else (
  some ((1 : Int32), v2.2)))
  else (
  some ((1 : Int32), v1.2))
def f_X12_isLetter_0 (F : Nat) : Int32 → cM → Option (Int32 × cM) := fun x0 M => b_X12_isLetter_0 F x0 M
def f_X12_isLetter (F : Nat) : Int32 → cM → Option (Int32 × cM) := fun a0 M => f_X12_isLetter_0 F a0 M
-- PatchbayScriptModel.isDigit(I)Z
def b_X12_isDigit_0 (F : Nat) : Int32 → cM → Option (Int32 × cM) := fun x0 M =>
  (f_X12_isIn F x0 (48 : Int32) (57 : Int32) M).bind fun v1 =>
  if v1.1 = 0 ∨ v1.1 = 1 then some (v1.1, v1.2) else none
def f_X12_isDigit_0 (F : Nat) : Int32 → cM → Option (Int32 × cM) := fun x0 M => b_X12_isDigit_0 F x0 M
def f_X12_isDigit (F : Nat) : Int32 → cM → Option (Int32 × cM) := fun a0 M => f_X12_isDigit_0 F a0 M
-- PatchbayScriptModel.isOf(II)Z
def b_X12_isOf_0 (F : Nat) : Int32 → Int32 → cM → Option (Int32 × cM) := fun x0 x1 M =>
  if x1 = 0 then (
  (f_X12_isDigit F x0 M).bind fun v1 =>
  if v1.1 = 0 ∨ v1.1 = 1 then some (v1.1, v1.2) else none)
  else (
  if x1 = (1 : Int32) then (
  (f_X12_isLetter F x0 M).bind fun v2 =>
  if v2.1 = 0 ∨ v2.1 = 1 then some (v2.1, v2.2) else none)
  else (
  if x1 = (2 : Int32) then (
  (f_X12_isIn F x0 (65 : Int32) (90 : Int32) M).bind fun v3 =>
  if v3.1 = 0 ∨ v3.1 = 1 then some (v3.1, v3.2) else none)
  else (
  if x0 = (32 : Int32) then (
  some ((0 : Int32), M))
  else (
  some ((1 : Int32), M)))))
def f_X12_isOf_0 (F : Nat) : Int32 → Int32 → cM → Option (Int32 × cM) := fun x0 x1 M => b_X12_isOf_0 F x0 x1 M
def f_X12_isOf (F : Nat) : Int32 → Int32 → cM → Option (Int32 × cM) := fun a0 a1 M => f_X12_isOf_0 F a0 a1 M
-- PatchbayScriptModel.isSign(I)Z
def b_X12_isSign_0 (F : Nat) : Int32 → cM → Option (Int32 × cM) := fun x0 M =>
  (f_X12_isLetter F x0 M).bind fun v1 =>
  if v1.1 = 0 then (
  (f_X12_isDigit F x0 v1.2).bind fun v2 =>
  if v2.1 = 0 then (
  if x0 = (32 : Int32) then (
  some ((1 : Int32), v2.2))
  else (
  if x0 = (44 : Int32) then (
  some ((1 : Int32), v2.2))
  else (
  if x0 = (46 : Int32) then (
  some ((1 : Int32), v2.2))
  else (
  if x0 = (45 : Int32) then (
  some ((1 : Int32), v2.2))
  else (
  if x0 = (47 : Int32) then (
  some ((1 : Int32), v2.2))
  else (
  some ((0 : Int32), v2.2)))))))
  else (
  some ((1 : Int32), v2.2)))
  else (
  some ((1 : Int32), v1.2))
def f_X12_isSign_0 (F : Nat) : Int32 → cM → Option (Int32 × cM) := fun x0 M => b_X12_isSign_0 F x0 M
def f_X12_isSign (F : Nat) : Int32 → cM → Option (Int32 × cM) := fun a0 M => f_X12_isSign_0 F a0 M
-- PatchbayScriptModel.upper(I)I
def b_X12_upper_0 (F : Nat) : Int32 → cM → Option (Int32 × cM) := fun x0 M =>
  (f_X12_isIn F x0 (97 : Int32) (122 : Int32) M).bind fun v1 =>
  if v1.1 = 0 then (
  some (x0, v1.2))
  else (
  some (x0 - (32 : Int32), v1.2))
def f_X12_upper_0 (F : Nat) : Int32 → cM → Option (Int32 × cM) := fun x0 M => b_X12_upper_0 F x0 M
def f_X12_upper (F : Nat) : Int32 → cM → Option (Int32 × cM) := fun a0 M => f_X12_upper_0 F a0 M
-- PatchbayScriptModel.lower(I)I
def b_X12_lower_0 (F : Nat) : Int32 → cM → Option (Int32 × cM) := fun x0 M =>
  (f_X12_isIn F x0 (65 : Int32) (90 : Int32) M).bind fun v1 =>
  if v1.1 = 0 then (
  some (x0, v1.2))
  else (
  some (x0 + (32 : Int32), v1.2))
def f_X12_lower_0 (F : Nat) : Int32 → cM → Option (Int32 × cM) := fun x0 M => b_X12_lower_0 F x0 M
def f_X12_lower (F : Nat) : Int32 → cM → Option (Int32 × cM) := fun a0 M => f_X12_lower_0 F a0 M
-- PatchbayScriptModel.laysRuns()V
def b_X12_laysRuns_104 (F : Nat) (t16 : Nat → Int32 → Int32 → cM → Option (cM)) : Nat → Int32 → Int32 → cM → Option (cM) := fun x0 x1 x2 M =>
  (fR M x0 10 44).bind fun v1 =>
  (fR M x0 10 42).bind fun v2 =>
  (aI 0 M v2 x1).bind fun v3 =>
  (sI 0 M v1 (((11 : Int32) * x1) + v3) (x2 + (1 : Int32))).bind fun M4 =>
  (fR M4 x0 10 42).bind fun v5 =>
  (aI 0 M4 v5 x1).bind fun v6 =>
  (sI 0 M4 v5 x1 (v6 + (1 : Int32))).bind fun M7 =>
  t16 x0 x1 (x2 + (1 : Int32)) M7
def f_X12_laysRuns_104 (F : Nat) (k2 : Nat → Int32 → cM → Option (cM)) (k16 : Nat → Int32 → Int32 → cM → Option (cM)) : Nat → Int32 → Int32 → cM → Option (cM) := fun x0 x1 x2 M => b_X12_laysRuns_104 F (k16) x0 x1 x2 M
def b_X12_laysRuns_75 (F : Nat) (t16 : Nat → Int32 → Int32 → cM → Option (cM)) (t104 : Nat → Int32 → Int32 → cM → Option (cM)) : Nat → Int32 → Int32 → Int32 → cM → Option (cM) := fun x0 x1 x2 x3 M =>
  if x3 = 0 then (
  t16 x0 x1 (x2 + (1 : Int32)) M)
  else (
  (fI M x0 10 40).bind fun v1 =>
  if x2 + (1 : Int32) = v1 then (
  t104 x0 x1 x2 M)
  else (
  (fR M x0 10 41).bind fun v2 =>
  (aI 0 M v2 (x2 + (1 : Int32))).bind fun v3 =>
  (f_X12_isOf F v3 x1 M).bind fun v4 =>
  if v4.1 = 0 then (
  t104 x0 x1 x2 v4.2)
  else (
  t16 x0 x1 (x2 + (1 : Int32)) v4.2)))
def f_X12_laysRuns_75 (F : Nat) (k2 : Nat → Int32 → cM → Option (cM)) (k16 : Nat → Int32 → Int32 → cM → Option (cM)) : Nat → Int32 → Int32 → Int32 → cM → Option (cM) := fun x0 x1 x2 x3 M => b_X12_laysRuns_75 F (k16) (f_X12_laysRuns_104 F k2 k16) x0 x1 x2 x3 M
def b_X12_laysRuns_58 (F : Nat) (t75 : Nat → Int32 → Int32 → Int32 → cM → Option (cM)) : Nat → Int32 → Int32 → Int32 → cM → Option (cM) := fun x0 x1 x2 x3 M =>
  (fR M x0 10 43).bind fun v1 =>
  (fR M x0 10 42).bind fun v2 =>
  (aI 0 M v2 x1).bind fun v3 =>
  (sI 0 M v1 (((11 : Int32) * x1) + v3) x2).bind fun M4 =>
  t75 x0 x1 x2 x3 M4
def f_X12_laysRuns_58 (F : Nat) (k2 : Nat → Int32 → cM → Option (cM)) (k16 : Nat → Int32 → Int32 → cM → Option (cM)) : Nat → Int32 → Int32 → Int32 → cM → Option (cM) := fun x0 x1 x2 x3 M => b_X12_laysRuns_58 F (f_X12_laysRuns_75 F k2 k16) x0 x1 x2 x3 M
def b_X12_laysRuns_16 (F : Nat) (t2 : Nat → Int32 → cM → Option (cM)) (t58 : Nat → Int32 → Int32 → Int32 → cM → Option (cM)) (t75 : Nat → Int32 → Int32 → Int32 → cM → Option (cM)) : Nat → Int32 → Int32 → cM → Option (cM) := fun x0 x1 x2 M =>
  (fI M x0 10 40).bind fun v1 =>
  if v1 ≤ x2 then (
  t2 x0 (x1 + (1 : Int32)) M)
  else (
  (fR M x0 10 41).bind fun v2 =>
  (aI 0 M v2 x2).bind fun v3 =>
  (f_X12_isOf F v3 x1 M).bind fun v4 =>
  if v4.1 = 0 then (
  t75 x0 x1 x2 v4.1 v4.2)
  else (
  if x2 = 0 then (
  t58 x0 x1 x2 v4.1 v4.2)
  else (
  (fR v4.2 x0 10 41).bind fun v5 =>
  (aI 0 v4.2 v5 (x2 - (1 : Int32))).bind fun v6 =>
  (f_X12_isOf F v6 x1 v4.2).bind fun v7 =>
  if v7.1 = 0 then (
  t58 x0 x1 x2 v4.1 v7.2)
  else (
  t75 x0 x1 x2 v4.1 v7.2))))
def f_X12_laysRuns_16 (F : Nat) (k2 : Nat → Int32 → cM → Option (cM)) : Nat → Nat → Int32 → Int32 → cM → Option (cM) := fun n => Nat.rec (fun _ _ _ _ => none) (fun _ ih x0 x1 x2 M => b_X12_laysRuns_16 F (k2) (f_X12_laysRuns_58 F k2 ih) (f_X12_laysRuns_75 F k2 ih) x0 x1 x2 M) n
def b_X12_laysRuns_2 (F : Nat) (t16 : Nat → Int32 → Int32 → cM → Option (cM)) : Nat → Int32 → cM → Option (cM) := fun x0 x1 M =>
  if (4 : Int32) ≤ x1 then (
  some M)
  else (
  (fR M x0 10 42).bind fun v1 =>
  (sI 0 M v1 x1 (0 : Int32)).bind fun M2 =>
  t16 x0 x1 (0 : Int32) M2)
def f_X12_laysRuns_2 (F : Nat) : Nat → Nat → Int32 → cM → Option (cM) := fun n => Nat.rec (fun _ _ _ => none) (fun _ ih x0 x1 M => b_X12_laysRuns_2 F (f_X12_laysRuns_16 F ih F) x0 x1 M) n
def b_X12_laysRuns_0 (F : Nat) (t2 : Nat → Int32 → cM → Option (cM)) : Nat → cM → Option (cM) := fun x0 M =>
  t2 x0 (0 : Int32) M
def f_X12_laysRuns_0 (F : Nat) : Nat → cM → Option (cM) := fun x0 M => b_X12_laysRuns_0 F (f_X12_laysRuns_2 F F) x0 M
def f_X12_laysRuns (F : Nat) : Nat → cM → Option (cM) := fun a0 M => if isC M a0 10 = true then f_X12_laysRuns_0 F a0 M else none
-- PatchbayScriptModel.takes([III)V
def b_X12_takes_8 (F : Nat) (t8 : Nat → Nat → Int32 → Int32 → Int32 → cM → Option (cM)) : Nat → Nat → Int32 → Int32 → Int32 → cM → Option (cM) := fun x0 x1 x2 x3 x4 M =>
  if x3 ≤ x4 then (
  (f_X12_laysRuns F x0 M).bind fun v1 =>
  some v1)
  else (
  (fR M x0 10 41).bind fun v2 =>
  (aI 0 M x1 (x2 + x4)).bind fun v3 =>
  (sI 0 M v2 x4 v3).bind fun M4 =>
  t8 x0 x1 x2 x3 (x4 + (1 : Int32)) M4)
def f_X12_takes_8 (F : Nat) : Nat → Nat → Nat → Int32 → Int32 → Int32 → cM → Option (cM) := fun n => Nat.rec (fun _ _ _ _ _ _ => none) (fun _ ih x0 x1 x2 x3 x4 M => b_X12_takes_8 F (ih) x0 x1 x2 x3 x4 M) n
def b_X12_takes_0 (F : Nat) (t8 : Nat → Nat → Int32 → Int32 → Int32 → cM → Option (cM)) : Nat → Nat → Int32 → Int32 → cM → Option (cM) := fun x0 x1 x2 x3 M =>
  (pF M x0 10 40 (.int x3)).bind fun M1 =>
  t8 x0 x1 x2 x3 (0 : Int32) M1
def f_X12_takes_0 (F : Nat) : Nat → Nat → Int32 → Int32 → cM → Option (cM) := fun x0 x1 x2 x3 M => b_X12_takes_0 F (f_X12_takes_8 F F) x0 x1 x2 x3 M
def f_X12_takes (F : Nat) : Nat → Nat → Int32 → Int32 → cM → Option (cM) := fun a0 a1 a2 a3 M => if isC M a0 10 = true then f_X12_takes_0 F a0 a1 a2 a3 M else none
-- PatchbayScriptModel.place(I)I
def b_X12_place_106 (F : Nat) : Nat → Int32 → Int32 → Int32 → cM → Option (Int32 × cM) := fun x0 x1 s0 s1 M =>
  dz (6 : Int32) (
  if (3 : Int32) ≤ (x1 - (6 : Int32)) - (x1 - (6 : Int32)) / (6 : Int32) * (6 : Int32) then (
  (fR M x0 10 44).bind fun v1 =>
  (aI 0 M v1 (s0 + s1)).bind fun v2 =>
  some (v2, M))
  else (
  (fR M x0 10 43).bind fun v3 =>
  (aI 0 M v3 (s0 + s1)).bind fun v4 =>
  some (v4, M)))
def f_X12_place_106 (F : Nat) : Nat → Int32 → Int32 → Int32 → cM → Option (Int32 × cM) := fun x0 x1 s0 s1 M => b_X12_place_106 F x0 x1 s0 s1 M
def b_X12_place_84 (F : Nat) (t106 : Nat → Int32 → Int32 → Int32 → cM → Option (Int32 × cM)) : Nat → Int32 → Int32 → Int32 → Int32 → Int32 → Int32 → cM → Option (Int32 × cM) := fun x0 x1 x2 x3 x4 s0 s1 M =>
  if s1 ≤ s0 then (
  if x3 = (2 : Int32) then (
  t106 x0 x1 ((11 : Int32) * x2) (x4 - (1 : Int32)) M)
  else (
  t106 x0 x1 ((11 : Int32) * x2) x3 M))
  else (
  some ((-1 : Int32), M))
def f_X12_place_84 (F : Nat) : Nat → Int32 → Int32 → Int32 → Int32 → Int32 → Int32 → cM → Option (Int32 × cM) := fun x0 x1 x2 x3 x4 s0 s1 M => b_X12_place_84 F (f_X12_place_106 F) x0 x1 x2 x3 x4 s0 s1 M
def b_X12_place_0 (F : Nat) (t84 : Nat → Int32 → Int32 → Int32 → Int32 → Int32 → Int32 → cM → Option (Int32 × cM)) : Nat → Int32 → cM → Option (Int32 × cM) := fun x0 x1 M =>
  if (3 : Int32) ≤ x1 then (
  if (6 : Int32) ≤ x1 then (
  dz (6 : Int32) (
  let v1 : Int32 := (x1 - (6 : Int32)) / (6 : Int32)
  dz (3 : Int32) (
  let v2 : Int32 := (x1 - (6 : Int32)) - (x1 - (6 : Int32)) / (3 : Int32) * (3 : Int32)
  (fR M x0 10 42).bind fun v3 =>
  (aI 0 M v3 v1).bind fun v4 =>
  if v2 = (1 : Int32) then (
  t84 x0 x1 v1 v2 v4 v4 (2 : Int32) M)
  else (
  t84 x0 x1 v1 v2 v4 v4 (1 : Int32) M))))
  else (
  (fI M x0 10 40).bind fun v5 =>
  if v5 - (x1 - (3 : Int32)) < 0 then (
  some ((-1 : Int32), M))
  else (
  (fI M x0 10 40).bind fun v6 =>
  some (v6 - (x1 - (3 : Int32)), M))))
  else (
  (fI M x0 10 40).bind fun v7 =>
  if v7 < x1 then (
  some ((-1 : Int32), M))
  else (
  some (x1, M)))
def f_X12_place_0 (F : Nat) : Nat → Int32 → cM → Option (Int32 × cM) := fun x0 x1 M => b_X12_place_0 F (f_X12_place_84 F) x0 x1 M
def f_X12_place (F : Nat) : Nat → Int32 → cM → Option (Int32 × cM) := fun a0 a1 M => if isC M a0 10 = true then f_X12_place_0 F a0 a1 M else none
-- PatchbayScriptModel.spotWeight(I)I
def b_X12_spotWeight_0 (F : Nat) : Int32 → cM → Option (Int32 × cM) := fun x0 M =>
  if (6 : Int32) ≤ x0 then (
  dz (3 : Int32) (
  if (x0 - (6 : Int32)) - (x0 - (6 : Int32)) / (3 : Int32) * (3 : Int32) = (1 : Int32) then (
  some ((2 : Int32), M))
  else (
  some ((1 : Int32), M))))
  else (
  dz (3 : Int32) (
  some ((3 : Int32) + (x0 - x0 / (3 : Int32) * (3 : Int32)), M)))
def f_X12_spotWeight_0 (F : Nat) : Int32 → cM → Option (Int32 × cM) := fun x0 M => b_X12_spotWeight_0 F x0 M
def f_X12_spotWeight (F : Nat) : Int32 → cM → Option (Int32 × cM) := fun a0 M => f_X12_spotWeight_0 F a0 M
-- PatchbayScriptModel.atomWeight(IIII)I
def b_X12_atomWeight_52 (F : Nat) : Int32 → Int32 → Int32 → cM → Option (Int32 × cM) := fun x3 s0 s1 M =>
  if x3 ≤ 0 then (
  some ((s0 + s1) + (0 : Int32), M))
  else (
  some ((s0 + s1) + (1 : Int32), M))
def f_X12_atomWeight_52 (F : Nat) : Int32 → Int32 → Int32 → cM → Option (Int32 × cM) := fun x3 s0 s1 M => b_X12_atomWeight_52 F x3 s0 s1 M
def b_X12_atomWeight_0 (F : Nat) (t52 : Int32 → Int32 → Int32 → cM → Option (Int32 × cM)) : Int32 → Int32 → Int32 → Int32 → cM → Option (Int32 × cM) := fun x0 x1 x2 x3 M =>
  if x0 = 0 then (
  some ((4 : Int32) + ((3 : Int32) * x1), M))
  else (
  if x0 = (1 : Int32) then (
  (f_X12_spotWeight F x1 M).bind fun v1 =>
  (f_X12_spotWeight F x2 v1.2).bind fun v2 =>
  if x3 ≤ 0 then (
  some ((((2 : Int32) + v1.1) + v2.1) + (0 : Int32), v2.2))
  else (
  some ((((2 : Int32) + v1.1) + v2.1) + (2 : Int32), v2.2)))
  else (
  if x2 ≤ 0 then (
  t52 x3 (6 : Int32) (0 : Int32) M)
  else (
  t52 x3 (6 : Int32) (1 : Int32) M)))
def f_X12_atomWeight_0 (F : Nat) : Int32 → Int32 → Int32 → Int32 → cM → Option (Int32 × cM) := fun x0 x1 x2 x3 M => b_X12_atomWeight_0 F (f_X12_atomWeight_52 F) x0 x1 x2 x3 M
def f_X12_atomWeight (F : Nat) : Int32 → Int32 → Int32 → Int32 → cM → Option (Int32 × cM) := fun a0 a1 a2 a3 M => f_X12_atomWeight_0 F a0 a1 a2 a3 M
-- PatchbayScriptModel.adds(I)V
def b_X12_adds_0 (F : Nat) : Nat → Int32 → cM → Option (cM) := fun x0 x1 M =>
  (fR M x0 10 46).bind fun v1 =>
  (fI M x0 10 45).bind fun v2 =>
  (sI 0 M v1 v2 x1).bind fun M3 =>
  (fI M3 x0 10 45).bind fun v4 =>
  (pF M3 x0 10 45 (.int (v4 + (1 : Int32)))).bind fun M5 =>
  some M5
def f_X12_adds_0 (F : Nat) : Nat → Int32 → cM → Option (cM) := fun x0 x1 M => b_X12_adds_0 F x0 x1 M
def f_X12_adds (F : Nat) : Nat → Int32 → cM → Option (cM) := fun a0 a1 M => if isC M a0 10 = true then f_X12_adds_0 F a0 a1 M else none
-- PatchbayScriptModel.cuts(III)Z
def b_X12_cuts_78 (F : Nat) (t39 : Nat → Int32 → Int32 → Int32 → Int32 → cM → Option (Int32 × cM)) : Nat → Int32 → Int32 → Int32 → Int32 → Nat → cM → Option (Int32 × cM) := fun x0 x3 x4 x5 x6 s0 M =>
  (fR M x0 10 41).bind fun v1 =>
  (aI 0 M v1 x6).bind fun v2 =>
  (f_X12_upper F v2 M).bind fun v3 =>
  (f_X12_adds F s0 v3.1 v3.2).bind fun v4 =>
  t39 x0 x3 x4 x5 (x6 + (1 : Int32)) v4
def f_X12_cuts_78 (F : Nat) (k39 : Nat → Int32 → Int32 → Int32 → Int32 → cM → Option (Int32 × cM)) : Nat → Int32 → Int32 → Int32 → Int32 → Nat → cM → Option (Int32 × cM) := fun x0 x3 x4 x5 x6 s0 M => b_X12_cuts_78 F (k39) x0 x3 x4 x5 x6 s0 M
def b_X12_cuts_39 (F : Nat) (t39 : Nat → Int32 → Int32 → Int32 → Int32 → cM → Option (Int32 × cM)) (t78 : Nat → Int32 → Int32 → Int32 → Int32 → Nat → cM → Option (Int32 × cM)) : Nat → Int32 → Int32 → Int32 → Int32 → cM → Option (Int32 × cM) := fun x0 x3 x4 x5 x6 M =>
  if x5 ≤ x6 then (
  some ((1 : Int32), M))
  else (
  if x3 = 0 then (
  (fR M x0 10 41).bind fun v1 =>
  (aI 0 M v1 x6).bind fun v2 =>
  (f_X12_adds F x0 v2 M).bind fun v3 =>
  t39 x0 x3 x4 x5 (x6 + (1 : Int32)) v3)
  else (
  if x3 = (1 : Int32) then (
  t78 x0 x3 x4 x5 x6 x0 M)
  else (
  if x3 = (3 : Int32) then (
  if x6 = x4 then (
  t78 x0 x3 x4 x5 x6 x0 M)
  else (
  (fR M x0 10 41).bind fun v4 =>
  (aI 0 M v4 x6).bind fun v5 =>
  (f_X12_lower F v5 M).bind fun v6 =>
  (f_X12_adds F x0 v6.1 v6.2).bind fun v7 =>
  t39 x0 x3 x4 x5 (x6 + (1 : Int32)) v7))
  else (
  (fR M x0 10 41).bind fun v8 =>
  (aI 0 M v8 x6).bind fun v9 =>
  (f_X12_lower F v9 M).bind fun v10 =>
  (f_X12_adds F x0 v10.1 v10.2).bind fun v11 =>
  t39 x0 x3 x4 x5 (x6 + (1 : Int32)) v11))))
def f_X12_cuts_39 (F : Nat) : Nat → Nat → Int32 → Int32 → Int32 → Int32 → cM → Option (Int32 × cM) := fun n => Nat.rec (fun _ _ _ _ _ _ => none) (fun _ ih x0 x3 x4 x5 x6 M => b_X12_cuts_39 F (ih) (f_X12_cuts_78 F ih) x0 x3 x4 x5 x6 M) n
def b_X12_cuts_0 (F : Nat) (t39 : Nat → Int32 → Int32 → Int32 → Int32 → cM → Option (Int32 × cM)) : Nat → Int32 → Int32 → Int32 → cM → Option (Int32 × cM) := fun x0 x1 x2 x3 M =>
  (f_X12_place F x0 x1 M).bind fun v1 =>
  (f_X12_place F x0 x2 v1.2).bind fun v2 =>
  if v1.1 = (-1 : Int32) then (
  some ((0 : Int32), v2.2))
  else (
  if v2.1 = (-1 : Int32) then (
  some ((0 : Int32), v2.2))
  else (
  if v1.1 < v2.1 then (
  t39 x0 x3 v1.1 v2.1 v1.1 v2.2)
  else (
  some ((0 : Int32), v2.2))))
def f_X12_cuts_0 (F : Nat) : Nat → Int32 → Int32 → Int32 → cM → Option (Int32 × cM) := fun x0 x1 x2 x3 M => b_X12_cuts_0 F (f_X12_cuts_39 F F) x0 x1 x2 x3 M
def f_X12_cuts (F : Nat) : Nat → Int32 → Int32 → Int32 → cM → Option (Int32 × cM) := fun a0 a1 a2 a3 M => if isC M a0 10 = true then f_X12_cuts_0 F a0 a1 a2 a3 M else none
-- PatchbayScriptModel.markOf(I)I
def b_X12_markOf_0 (F : Nat) : Int32 → cM → Option (Int32 × cM) := fun x0 M =>
  if x0 = (1 : Int32) then (
  some ((32 : Int32), M))
  else (
  if x0 = (2 : Int32) then (
  some ((44 : Int32), M))
  else (
  if x0 = (3 : Int32) then (
  some ((46 : Int32), M))
  else (
  if x0 = (4 : Int32) then (
  some ((45 : Int32), M))
  else (
  some ((47 : Int32), M)))))
def f_X12_markOf_0 (F : Nat) : Int32 → cM → Option (Int32 × cM) := fun x0 M => b_X12_markOf_0 F x0 M
def f_X12_markOf (F : Nat) : Int32 → cM → Option (Int32 × cM) := fun a0 M => f_X12_markOf_0 F a0 M
-- PatchbayScriptModel.eachs(III)Z
def b_X12_eachs_99 (F : Nat) (t6 : Nat → Int32 → Int32 → Int32 → Int32 → cM → Option (Int32 × cM)) (t99 : Nat → Int32 → Int32 → Int32 → Int32 → Int32 → Int32 → cM → Option (Int32 × cM)) : Nat → Int32 → Int32 → Int32 → Int32 → Int32 → Int32 → cM → Option (Int32 × cM) := fun x0 x1 x2 x3 x4 x6 x7 M =>
  if x6 ≤ x7 then (
  t6 x0 x1 x2 x3 (x4 + (1 : Int32)) M)
  else (
  (fR M x0 10 41).bind fun v1 =>
  (aI 0 M v1 x7).bind fun v2 =>
  (f_X12_adds F x0 v2 M).bind fun v3 =>
  t99 x0 x1 x2 x3 x4 x6 (x7 + (1 : Int32)) v3)
def f_X12_eachs_99 (F : Nat) (k6 : Nat → Int32 → Int32 → Int32 → Int32 → cM → Option (Int32 × cM)) : Nat → Nat → Int32 → Int32 → Int32 → Int32 → Int32 → Int32 → cM → Option (Int32 × cM) := fun n => Nat.rec (fun _ _ _ _ _ _ _ _ => none) (fun _ ih x0 x1 x2 x3 x4 x6 x7 M => b_X12_eachs_99 F (k6) (ih) x0 x1 x2 x3 x4 x6 x7 M) n
def b_X12_eachs_67 (F : Nat) (t99 : Nat → Int32 → Int32 → Int32 → Int32 → Int32 → Int32 → cM → Option (Int32 × cM)) : Nat → Int32 → Int32 → Int32 → Int32 → Int32 → cM → Option (Int32 × cM) := fun x0 x1 x2 x3 x4 s0 M =>
  if x2 = (1 : Int32) then (
  (fR M x0 10 43).bind fun v1 =>
  (aI 0 M v1 x4).bind fun v2 =>
  t99 x0 x1 x2 x3 x4 (v2 + (1 : Int32)) s0 M)
  else (
  (fR M x0 10 44).bind fun v3 =>
  (aI 0 M v3 x4).bind fun v4 =>
  t99 x0 x1 x2 x3 x4 v4 s0 M)
def f_X12_eachs_67 (F : Nat) (k6 : Nat → Int32 → Int32 → Int32 → Int32 → cM → Option (Int32 × cM)) : Nat → Int32 → Int32 → Int32 → Int32 → Int32 → cM → Option (Int32 × cM) := fun x0 x1 x2 x3 x4 s0 M => b_X12_eachs_67 F (f_X12_eachs_99 F k6 F) x0 x1 x2 x3 x4 s0 M
def b_X12_eachs_43 (F : Nat) (t67 : Nat → Int32 → Int32 → Int32 → Int32 → Int32 → cM → Option (Int32 × cM)) : Nat → Int32 → Int32 → Int32 → Int32 → cM → Option (Int32 × cM) := fun x0 x1 x2 x3 x4 M =>
  if x2 = (2 : Int32) then (
  (fR M x0 10 44).bind fun v1 =>
  (aI 0 M v1 x4).bind fun v2 =>
  t67 x0 x1 x2 x3 x4 (v2 - (1 : Int32)) M)
  else (
  (fR M x0 10 43).bind fun v3 =>
  (aI 0 M v3 x4).bind fun v4 =>
  t67 x0 x1 x2 x3 x4 v4 M)
def f_X12_eachs_43 (F : Nat) (k6 : Nat → Int32 → Int32 → Int32 → Int32 → cM → Option (Int32 × cM)) : Nat → Int32 → Int32 → Int32 → Int32 → cM → Option (Int32 × cM) := fun x0 x1 x2 x3 x4 M => b_X12_eachs_43 F (f_X12_eachs_67 F k6) x0 x1 x2 x3 x4 M
def b_X12_eachs_6 (F : Nat) (t43 : Nat → Int32 → Int32 → Int32 → Int32 → cM → Option (Int32 × cM)) : Nat → Int32 → Int32 → Int32 → Int32 → cM → Option (Int32 × cM) := fun x0 x1 x2 x3 x4 M =>
  (fR M x0 10 42).bind fun v1 =>
  (aI 0 M v1 x1).bind fun v2 =>
  if ((11 : Int32) * x1) + v2 ≤ x4 then (
  (fR M x0 10 42).bind fun v3 =>
  (aI 0 M v3 x1).bind fun v4 =>
  if v4 ≤ 0 then (
  some ((0 : Int32), M))
  else (
  some ((1 : Int32), M)))
  else (
  if x4 ≤ (11 : Int32) * x1 then (
  t43 x0 x1 x2 x3 x4 M)
  else (
  if x3 ≤ 0 then (
  t43 x0 x1 x2 x3 x4 M)
  else (
  (f_X12_markOf F x3 M).bind fun v5 =>
  (f_X12_adds F x0 v5.1 v5.2).bind fun v6 =>
  t43 x0 x1 x2 x3 x4 v6)))
def f_X12_eachs_6 (F : Nat) : Nat → Nat → Int32 → Int32 → Int32 → Int32 → cM → Option (Int32 × cM) := fun n => Nat.rec (fun _ _ _ _ _ _ => none) (fun _ ih x0 x1 x2 x3 x4 M => b_X12_eachs_6 F (f_X12_eachs_43 F ih) x0 x1 x2 x3 x4 M) n
def b_X12_eachs_0 (F : Nat) (t6 : Nat → Int32 → Int32 → Int32 → Int32 → cM → Option (Int32 × cM)) : Nat → Int32 → Int32 → Int32 → cM → Option (Int32 × cM) := fun x0 x1 x2 x3 M =>
  let v1 : Int32 := (11 : Int32) * x1
  t6 x0 x1 x2 x3 v1 M
def f_X12_eachs_0 (F : Nat) : Nat → Int32 → Int32 → Int32 → cM → Option (Int32 × cM) := fun x0 x1 x2 x3 M => b_X12_eachs_0 F (f_X12_eachs_6 F F) x0 x1 x2 x3 M
def f_X12_eachs (F : Nat) : Nat → Int32 → Int32 → Int32 → cM → Option (Int32 × cM) := fun a0 a1 a2 a3 M => if isC M a0 10 = true then f_X12_eachs_0 F a0 a1 a2 a3 M else none
-- PatchbayScriptModel.makes(I)Z
def b_X12_makes_140 (F : Nat) : Nat → Int32 → cM → Option (Int32 × cM) := fun x0 x2 M =>
  if x2 = 0 then (
  some ((0 : Int32), M))
  else (
  (fI M x0 10 45).bind fun v1 =>
  if (20 : Int32) < v1 then (
  some ((0 : Int32), M))
  else (
  some ((1 : Int32), M)))
def f_X12_makes_140 (F : Nat) : Nat → Int32 → cM → Option (Int32 × cM) := fun x0 x2 M => b_X12_makes_140 F x0 x2 M
def b_X12_makes_41 (F : Nat) (t11 : Nat → Int32 → Int32 → Int32 → cM → Option (Int32 × cM)) (t41 : Nat → Int32 → Int32 → Int32 → Int32 → cM → Option (Int32 × cM)) : Nat → Int32 → Int32 → Int32 → Int32 → cM → Option (Int32 × cM) := fun x0 x1 x2 x3 x4 M =>
  (fR M x0 10 34).bind fun v1 =>
  (aI 0 M v1 x3).bind fun v2 =>
  if v2 ≤ x4 then (
  t11 x0 x1 x2 (x3 + (1 : Int32)) M)
  else (
  (fR M x0 10 37).bind fun v3 =>
  (aI 0 M v3 (((4 : Int32) * x3) + x4)).bind fun v4 =>
  (f_X12_adds F x0 v4 M).bind fun v5 =>
  t41 x0 x1 x2 x3 (x4 + (1 : Int32)) v5)
def f_X12_makes_41 (F : Nat) (k11 : Nat → Int32 → Int32 → Int32 → cM → Option (Int32 × cM)) : Nat → Nat → Int32 → Int32 → Int32 → Int32 → cM → Option (Int32 × cM) := fun n => Nat.rec (fun _ _ _ _ _ _ => none) (fun _ ih x0 x1 x2 x3 x4 M => b_X12_makes_41 F (k11) (ih) x0 x1 x2 x3 x4 M) n
def b_X12_makes_76 (F : Nat) (t11 : Nat → Int32 → Int32 → Int32 → cM → Option (Int32 × cM)) : Nat → Int32 → Int32 → cM → Option (Int32 × cM) := fun x0 x1 x3 M =>
  (fR M x0 10 33).bind fun v1 =>
  (aI 0 M v1 x3).bind fun v2 =>
  if v2 = (1 : Int32) then (
  (fR M x0 10 34).bind fun v3 =>
  (aI 0 M v3 x3).bind fun v4 =>
  (fR M x0 10 35).bind fun v5 =>
  (aI 0 M v5 x3).bind fun v6 =>
  (fR M x0 10 36).bind fun v7 =>
  (aI 0 M v7 x3).bind fun v8 =>
  (f_X12_cuts F x0 v4 v6 v8 M).bind fun v9 =>
  t11 x0 x1 v9.1 (x3 + (1 : Int32)) v9.2)
  else (
  (fR M x0 10 34).bind fun v10 =>
  (aI 0 M v10 x3).bind fun v11 =>
  (fR M x0 10 35).bind fun v12 =>
  (aI 0 M v12 x3).bind fun v13 =>
  (fR M x0 10 36).bind fun v14 =>
  (aI 0 M v14 x3).bind fun v15 =>
  (f_X12_eachs F x0 v11 v13 v15 M).bind fun v16 =>
  t11 x0 x1 v16.1 (x3 + (1 : Int32)) v16.2)
def f_X12_makes_76 (F : Nat) (k11 : Nat → Int32 → Int32 → Int32 → cM → Option (Int32 × cM)) : Nat → Int32 → Int32 → cM → Option (Int32 × cM) := fun x0 x1 x3 M => b_X12_makes_76 F (k11) x0 x1 x3 M
def b_X12_makes_11 (F : Nat) (t41 : Nat → Int32 → Int32 → Int32 → Int32 → cM → Option (Int32 × cM)) (t76 : Nat → Int32 → Int32 → cM → Option (Int32 × cM)) (t140 : Nat → Int32 → cM → Option (Int32 × cM)) : Nat → Int32 → Int32 → Int32 → cM → Option (Int32 × cM) := fun x0 x1 x2 x3 M =>
  (fR M x0 10 31).bind fun v1 =>
  (aI 0 M v1 x1).bind fun v2 =>
  if ((4 : Int32) * x1) + v2 ≤ x3 then (
  t140 x0 x2 M)
  else (
  if x2 = 0 then (
  t140 x0 x2 M)
  else (
  (fR M x0 10 33).bind fun v3 =>
  (aI 0 M v3 x3).bind fun v4 =>
  if v4 = 0 then (
  t41 x0 x1 x2 x3 (0 : Int32) M)
  else (
  t76 x0 x1 x3 M)))
def f_X12_makes_11 (F : Nat) : Nat → Nat → Int32 → Int32 → Int32 → cM → Option (Int32 × cM) := fun n => Nat.rec (fun _ _ _ _ _ => none) (fun _ ih x0 x1 x2 x3 M => b_X12_makes_11 F (f_X12_makes_41 F ih F) (f_X12_makes_76 F ih) (f_X12_makes_140 F) x0 x1 x2 x3 M) n
def b_X12_makes_0 (F : Nat) (t11 : Nat → Int32 → Int32 → Int32 → cM → Option (Int32 × cM)) : Nat → Int32 → cM → Option (Int32 × cM) := fun x0 x1 M =>
  (pF M x0 10 45 (.int (0 : Int32))).bind fun M1 =>
  t11 x0 x1 (1 : Int32) ((4 : Int32) * x1) M1
def f_X12_makes_0 (F : Nat) : Nat → Int32 → cM → Option (Int32 × cM) := fun x0 x1 M => b_X12_makes_0 F (f_X12_makes_11 F F) x0 x1 M
def f_X12_makes (F : Nat) : Nat → Int32 → cM → Option (Int32 × cM) := fun a0 a1 M => if isC M a0 10 = true then f_X12_makes_0 F a0 a1 M else none
-- PatchbayScriptModel.copies(II)V
def b_X12_copies_119 (F : Nat) (t119 : Nat → Int32 → Int32 → Int32 → cM → Option (cM)) : Nat → Int32 → Int32 → Int32 → cM → Option (cM) := fun x0 x1 x2 x3 M =>
  if (16 : Int32) ≤ x3 then (
  some M)
  else (
  (fR M x0 10 37).bind fun v1 =>
  (fR M x0 10 37).bind fun v2 =>
  (aI 0 M v2 (((16 : Int32) * x1) + x3)).bind fun v3 =>
  (sI 0 M v1 (((16 : Int32) * x2) + x3) v3).bind fun M4 =>
  t119 x0 x1 x2 (x3 + (1 : Int32)) M4)
def f_X12_copies_119 (F : Nat) : Nat → Nat → Int32 → Int32 → Int32 → cM → Option (cM) := fun n => Nat.rec (fun _ _ _ _ _ => none) (fun _ ih x0 x1 x2 x3 M => b_X12_copies_119 F (ih) x0 x1 x2 x3 M) n
def b_X12_copies_71 (F : Nat) (t26 : Nat → Int32 → Int32 → Int32 → cM → Option (cM)) : Nat → Int32 → Int32 → Int32 → cM → Option (cM) := fun x0 x1 x2 x3 M =>
  (fR M x0 10 35).bind fun v1 =>
  (fR M x0 10 35).bind fun v2 =>
  (aI 0 M v2 (((4 : Int32) * x1) + x3)).bind fun v3 =>
  (sI 0 M v1 (((4 : Int32) * x2) + x3) v3).bind fun M4 =>
  (fR M4 x0 10 36).bind fun v5 =>
  (fR M4 x0 10 36).bind fun v6 =>
  (aI 0 M4 v6 (((4 : Int32) * x1) + x3)).bind fun v7 =>
  (sI 0 M4 v5 (((4 : Int32) * x2) + x3) v7).bind fun M8 =>
  t26 x0 x1 x2 (x3 + (1 : Int32)) M8
def f_X12_copies_71 (F : Nat) (k26 : Nat → Int32 → Int32 → Int32 → cM → Option (cM)) : Nat → Int32 → Int32 → Int32 → cM → Option (cM) := fun x0 x1 x2 x3 M => b_X12_copies_71 F (k26) x0 x1 x2 x3 M
def b_X12_copies_26 (F : Nat) (t71 : Nat → Int32 → Int32 → Int32 → cM → Option (cM)) (t119 : Nat → Int32 → Int32 → Int32 → cM → Option (cM)) : Nat → Int32 → Int32 → Int32 → cM → Option (cM) := fun x0 x1 x2 x3 M =>
  if (4 : Int32) ≤ x3 then (
  t119 x0 x1 x2 (0 : Int32) M)
  else (
  (fR M x0 10 33).bind fun v1 =>
  (fR M x0 10 33).bind fun v2 =>
  (aI 0 M v2 (((4 : Int32) * x1) + x3)).bind fun v3 =>
  (sI 0 M v1 (((4 : Int32) * x2) + x3) v3).bind fun M4 =>
  (fR M4 x0 10 34).bind fun v5 =>
  (fR M4 x0 10 34).bind fun v6 =>
  (aI 0 M4 v6 (((4 : Int32) * x1) + x3)).bind fun v7 =>
  (sI 0 M4 v5 (((4 : Int32) * x2) + x3) v7).bind fun M8 =>
  t71 x0 x1 x2 x3 M8)
def f_X12_copies_26 (F : Nat) : Nat → Nat → Int32 → Int32 → Int32 → cM → Option (cM) := fun n => Nat.rec (fun _ _ _ _ _ => none) (fun _ ih x0 x1 x2 x3 M => b_X12_copies_26 F (f_X12_copies_71 F ih) (f_X12_copies_119 F F) x0 x1 x2 x3 M) n
def b_X12_copies_0 (F : Nat) (t26 : Nat → Int32 → Int32 → Int32 → cM → Option (cM)) : Nat → Int32 → Int32 → cM → Option (cM) := fun x0 x1 x2 M =>
  (fR M x0 10 31).bind fun v1 =>
  (fR M x0 10 31).bind fun v2 =>
  (aI 0 M v2 x1).bind fun v3 =>
  (sI 0 M v1 x2 v3).bind fun M4 =>
  (fR M4 x0 10 32).bind fun v5 =>
  (fR M4 x0 10 32).bind fun v6 =>
  (aI 0 M4 v6 x1).bind fun v7 =>
  (sI 0 M4 v5 x2 v7).bind fun M8 =>
  t26 x0 x1 x2 (0 : Int32) M8
def f_X12_copies_0 (F : Nat) : Nat → Int32 → Int32 → cM → Option (cM) := fun x0 x1 x2 M => b_X12_copies_0 F (f_X12_copies_26 F F) x0 x1 x2 M
def f_X12_copies (F : Nat) : Nat → Int32 → Int32 → cM → Option (cM) := fun a0 a1 a2 M => if isC M a0 10 = true then f_X12_copies_0 F a0 a1 a2 M else none
-- PatchbayScriptModel.holds(I)Z
def b_X12_holds_67 (F : Nat) (t67 : Nat → Int32 → Int32 → Int32 → cM → Option (Int32 × cM)) : Nat → Int32 → Int32 → Int32 → cM → Option (Int32 × cM) := fun x0 x1 x2 x3 M =>
  (fI M x0 10 40).bind fun v1 =>
  if v1 ≤ x3 then (
  if x2 = 0 ∨ x2 = 1 then some (x2, M) else none)
  else (
  if x2 = 0 then (
  (fR M x0 10 41).bind fun v2 =>
  (aI 0 M v2 x3).bind fun v3 =>
  (f_X12_markOf F (x1 - (15 : Int32)) M).bind fun v4 =>
  if v3 = v4.1 then (
  t67 x0 x1 (1 : Int32) (x3 + (1 : Int32)) v4.2)
  else (
  t67 x0 x1 (0 : Int32) (x3 + (1 : Int32)) v4.2))
  else (
  t67 x0 x1 (1 : Int32) (x3 + (1 : Int32)) M))
def f_X12_holds_67 (F : Nat) : Nat → Nat → Int32 → Int32 → Int32 → cM → Option (Int32 × cM) := fun n => Nat.rec (fun _ _ _ _ _ => none) (fun _ ih x0 x1 x2 x3 M => b_X12_holds_67 F (ih) x0 x1 x2 x3 M) n
def b_X12_holds_0 (F : Nat) (t67 : Nat → Int32 → Int32 → Int32 → cM → Option (Int32 × cM)) : Nat → Int32 → cM → Option (Int32 × cM) := fun x0 x1 M =>
  if (12 : Int32) ≤ x1 then (
  if (16 : Int32) ≤ x1 then (
  t67 x0 x1 (0 : Int32) (0 : Int32) M)
  else (
  (fI M x0 10 40).bind fun v1 =>
  if v1 ≤ 0 then (
  some ((0 : Int32), M))
  else (
  (fR M x0 10 41).bind fun v2 =>
  (aI 0 M v2 (0 : Int32)).bind fun v3 =>
  (f_X12_isOf F v3 (x1 - (12 : Int32)) M).bind fun v4 =>
  if v4.1 = 0 then (
  some ((0 : Int32), v4.2))
  else (
  some ((1 : Int32), v4.2)))))
  else (
  (fR M x0 10 42).bind fun v5 =>
  dz (3 : Int32) (
  (aI 0 M v5 (x1 / (3 : Int32))).bind fun v6 =>
  dz (3 : Int32) (
  if v6 < (x1 - x1 / (3 : Int32) * (3 : Int32)) + (1 : Int32) then (
  some ((0 : Int32), M))
  else (
  some ((1 : Int32), M)))))
def f_X12_holds_0 (F : Nat) : Nat → Int32 → cM → Option (Int32 × cM) := fun x0 x1 M => b_X12_holds_0 F (f_X12_holds_67 F F) x0 x1 M
def f_X12_holds (F : Nat) : Nat → Int32 → cM → Option (Int32 × cM) := fun a0 a1 M => if isC M a0 10 = true then f_X12_holds_0 F a0 a1 M else none
-- PatchbayScriptModel.makesBy(II)Z
def b_X12_makesBy_0 (F : Nat) : Nat → Int32 → Int32 → cM → Option (Int32 × cM) := fun x0 x1 x2 M =>
  if x2 = (-1 : Int32) then (
  (f_X12_makes F x0 x1 M).bind fun v1 =>
  if v1.1 = 0 ∨ v1.1 = 1 then some (v1.1, v1.2) else none)
  else (
  (f_X12_holds F x0 x2 M).bind fun v2 =>
  if v2.1 = 0 then (
  (f_X12_makes F x0 (x1 + (1 : Int32)) v2.2).bind fun v3 =>
  if v3.1 = 0 ∨ v3.1 = 1 then some (v3.1, v3.2) else none)
  else (
  (f_X12_makes F x0 x1 v2.2).bind fun v4 =>
  if v4.1 = 0 ∨ v4.1 = 1 then some (v4.1, v4.2) else none))
def f_X12_makesBy_0 (F : Nat) : Nat → Int32 → Int32 → cM → Option (Int32 × cM) := fun x0 x1 x2 M => b_X12_makesBy_0 F x0 x1 x2 M
def f_X12_makesBy (F : Nat) : Nat → Int32 → Int32 → cM → Option (Int32 × cM) := fun a0 a1 a2 M => if isC M a0 10 = true then f_X12_makesBy_0 F a0 a1 a2 M else none
-- PatchbayScriptModel.laysLine(I)V
def b_X12_laysLine_83 (F : Nat) (t23 : Nat → Int32 → Int32 → cM → Option (cM)) : Nat → Int32 → Int32 → Int32 → cM → Option (cM) := fun x0 x1 x2 x3 M =>
  (fR M x0 10 29).bind fun v1 =>
  (aI 0 M v1 x3).bind fun v2 =>
  (f_X12_makesBy F x0 ((6 : Int32) + ((2 : Int32) * x3)) v2 M).bind fun v3 =>
  if v3.1 = 0 then (
  t23 x0 x1 (x2 + (1 : Int32)) v3.2)
  else (
  (fR v3.2 x0 10 46).bind fun v4 =>
  (fI v3.2 x0 10 45).bind fun v5 =>
  (f_X12_takes F x0 v4 (0 : Int32) v5 v3.2).bind fun v6 =>
  t23 x0 x1 (x2 + (1 : Int32)) v6)
def f_X12_laysLine_83 (F : Nat) (k23 : Nat → Int32 → Int32 → cM → Option (cM)) : Nat → Int32 → Int32 → Int32 → cM → Option (cM) := fun x0 x1 x2 x3 M => b_X12_laysLine_83 F (k23) x0 x1 x2 x3 M
def b_X12_laysLine_23 (F : Nat) (t23 : Nat → Int32 → Int32 → cM → Option (cM)) (t83 : Nat → Int32 → Int32 → Int32 → cM → Option (cM)) : Nat → Int32 → Int32 → cM → Option (cM) := fun x0 x1 x2 M =>
  (fR M x0 10 6).bind fun v1 =>
  (aI 0 M v1 x1).bind fun v2 =>
  if ((40 : Int32) * x1) + v2 ≤ x2 then (
  some M)
  else (
  (fR M x0 10 7).bind fun v3 =>
  (aI 0 M v3 x2).bind fun v4 =>
  if 0 ≤ v4 then (
  (fR M x0 10 28).bind fun v5 =>
  (aI 3 M v5 v4).bind fun v6 =>
  if v6 = 0 then (
  t83 x0 x1 x2 v4 M)
  else (
  t23 x0 x1 (x2 + (1 : Int32)) M))
  else (
  (fR M x0 10 12).bind fun v7 =>
  (fR M x0 10 13).bind fun v8 =>
  (aI 0 M v8 ((-1 : Int32) - v4)).bind fun v9 =>
  (f_X12_takes F x0 v7 ((20 : Int32) * ((-1 : Int32) - v4)) v9 M).bind fun v10 =>
  t23 x0 x1 (x2 + (1 : Int32)) v10))
def f_X12_laysLine_23 (F : Nat) : Nat → Nat → Int32 → Int32 → cM → Option (cM) := fun n => Nat.rec (fun _ _ _ _ => none) (fun _ ih x0 x1 x2 M => b_X12_laysLine_23 F (ih) (f_X12_laysLine_83 F ih) x0 x1 x2 M) n
def b_X12_laysLine_0 (F : Nat) (t23 : Nat → Int32 → Int32 → cM → Option (cM)) : Nat → Int32 → cM → Option (cM) := fun x0 x1 M =>
  (fR M x0 10 4).bind fun v1 =>
  (fR M x0 10 5).bind fun v2 =>
  (aI 0 M v2 x1).bind fun v3 =>
  (f_X12_takes F x0 v1 ((20 : Int32) * x1) v3 M).bind fun v4 =>
  let v5 : Int32 := (40 : Int32) * x1
  t23 x0 x1 v5 v4
def f_X12_laysLine_0 (F : Nat) : Nat → Int32 → cM → Option (cM) := fun x0 x1 M => b_X12_laysLine_0 F (f_X12_laysLine_23 F F) x0 x1 M
def f_X12_laysLine (F : Nat) : Nat → Int32 → cM → Option (cM) := fun a0 a1 M => if isC M a0 10 = true then f_X12_laysLine_0 F a0 a1 M else none
-- PatchbayScriptModel.isShownOn(II)Z
def b_X12_isShownOn_7 (F : Nat) (t7 : Nat → Int32 → Int32 → Int32 → Int32 → cM → Option (Int32 × cM)) : Nat → Int32 → Int32 → Int32 → Int32 → cM → Option (Int32 × cM) := fun x0 x1 x2 x3 x4 M =>
  (fR M x0 10 8).bind fun v1 =>
  (aI 0 M v1 x1).bind fun v2 =>
  if ((4 : Int32) * x1) + v2 ≤ x4 then (
  if x3 = 0 ∨ x3 = 1 then some (x3, M) else none)
  else (
  if x3 = 0 then (
  (fR M x0 10 9).bind fun v3 =>
  (aI 0 M v3 x4).bind fun v4 =>
  if v4 = x2 then (
  t7 x0 x1 x2 (1 : Int32) (x4 + (1 : Int32)) M)
  else (
  t7 x0 x1 x2 (0 : Int32) (x4 + (1 : Int32)) M))
  else (
  t7 x0 x1 x2 (1 : Int32) (x4 + (1 : Int32)) M))
def f_X12_isShownOn_7 (F : Nat) : Nat → Nat → Int32 → Int32 → Int32 → Int32 → cM → Option (Int32 × cM) := fun n => Nat.rec (fun _ _ _ _ _ _ => none) (fun _ ih x0 x1 x2 x3 x4 M => b_X12_isShownOn_7 F (ih) x0 x1 x2 x3 x4 M) n
def b_X12_isShownOn_0 (F : Nat) (t7 : Nat → Int32 → Int32 → Int32 → Int32 → cM → Option (Int32 × cM)) : Nat → Int32 → Int32 → cM → Option (Int32 × cM) := fun x0 x1 x2 M =>
  t7 x0 x1 x2 (0 : Int32) ((4 : Int32) * x1) M
def f_X12_isShownOn_0 (F : Nat) : Nat → Int32 → Int32 → cM → Option (Int32 × cM) := fun x0 x1 x2 M => b_X12_isShownOn_0 F (f_X12_isShownOn_7 F F) x0 x1 x2 M
def f_X12_isShownOn (F : Nat) : Nat → Int32 → Int32 → cM → Option (Int32 × cM) := fun a0 a1 a2 M => if isC M a0 10 = true then f_X12_isShownOn_0 F a0 a1 a2 M else none
-- PatchbayScriptModel.type(C)I
def b_X12_type_26 (F : Nat) : Nat → Int32 → Nat → Int32 → cM → Option (Int32 × cM) := fun x0 x1 s0 s1 M =>
  (pF M s0 10 0 (.int s1)).bind fun M1 =>
  (fI M1 x0 10 0).bind fun v2 =>
  if v2 ≤ 0 then (
  (fR M1 x0 10 2).bind fun v3 =>
  (fI M1 x0 10 1).bind fun v4 =>
  (sI 0 M1 v3 v4 x1).bind fun M5 =>
  (fI M5 x0 10 1).bind fun v6 =>
  (pF M5 x0 10 1 (.int (v6 + (1 : Int32)))).bind fun M7 =>
  (fI M7 x0 10 1).bind fun v8 =>
  some (v8, M7))
  else (
  some ((0 : Int32), M1))
def f_X12_type_26 (F : Nat) : Nat → Int32 → Nat → Int32 → cM → Option (Int32 × cM) := fun x0 x1 s0 s1 M => b_X12_type_26 F x0 x1 s0 s1 M
def b_X12_type_0 (F : Nat) (t26 : Nat → Int32 → Nat → Int32 → cM → Option (Int32 × cM)) : Nat → Int32 → cM → Option (Int32 × cM) := fun x0 x1 M =>
  (f_X12_isSign F x1 M).bind fun v1 =>
  if v1.1 = 0 then (
  t26 x0 x1 x0 (1 : Int32) v1.2)
  else (
  (fI v1.2 x0 10 1).bind fun v2 =>
  if v2 = (20 : Int32) then (
  t26 x0 x1 x0 (2 : Int32) v1.2)
  else (
  t26 x0 x1 x0 (0 : Int32) v1.2))
def f_X12_type_0 (F : Nat) : Nat → Int32 → cM → Option (Int32 × cM) := fun x0 x1 M => b_X12_type_0 F (f_X12_type_26 F) x0 x1 M
def f_X12_type (F : Nat) : Nat → Int32 → cM → Option (Int32 × cM) := fun a0 a1 M => if isC M a0 10 = true then f_X12_type_0 F a0 a1 M else none
-- PatchbayScriptModel.begins(I)V
def b_X12_begins_36 (F : Nat) : Nat → Int32 → cM → Option (cM) := fun x0 x1 M =>
  (fR M x0 10 29).bind fun v1 =>
  (fI M x0 10 27).bind fun v2 =>
  (fR M x0 10 25).bind fun v3 =>
  (aI 0 M v3 x1).bind fun v4 =>
  (sI 0 M v1 v2 v4).bind fun M5 =>
  (fR M5 x0 10 28).bind fun v6 =>
  (fI M5 x0 10 27).bind fun v7 =>
  (sI 3 M5 v6 v7 (0 : Int32)).bind fun M8 =>
  (fI M8 x0 10 27).bind fun v9 =>
  (pF M8 x0 10 27 (.int (v9 + (1 : Int32)))).bind fun M10 =>
  some M10
def f_X12_begins_36 (F : Nat) : Nat → Int32 → cM → Option (cM) := fun x0 x1 M => b_X12_begins_36 F x0 x1 M
def b_X12_begins_0 (F : Nat) (t36 : Nat → Int32 → cM → Option (cM)) : Nat → Int32 → cM → Option (cM) := fun x0 x1 M =>
  (fI M x0 10 27).bind fun v1 =>
  (f_X12_copies F x0 ((2 : Int32) * x1) ((6 : Int32) + ((2 : Int32) * v1)) M).bind fun v2 =>
  (fI v2 x0 10 27).bind fun v3 =>
  (f_X12_copies F x0 (((2 : Int32) * x1) + (1 : Int32)) (((6 : Int32) + ((2 : Int32) * v3)) + (1 : Int32)) v2).bind fun v4 =>
  t36 x0 x1 v4
def f_X12_begins_0 (F : Nat) : Nat → Int32 → cM → Option (cM) := fun x0 x1 M => b_X12_begins_0 F (f_X12_begins_36 F) x0 x1 M
def f_X12_begins (F : Nat) : Nat → Int32 → cM → Option (cM) := fun a0 a1 M => if isC M a0 10 = true then f_X12_begins_0 F a0 a1 M else none
-- PatchbayScriptModel.runsOn(II)Z
def b_X12_runsOn_0 (F : Nat) : Nat → Int32 → Int32 → cM → Option (Int32 × cM) := fun x0 x1 x2 M =>
  (f_X12_laysLine F x0 x2 M).bind fun v1 =>
  (fR v1 x0 10 25).bind fun v2 =>
  (aI 0 v1 v2 x1).bind fun v3 =>
  (f_X12_makesBy F x0 ((2 : Int32) * x1) v3 v1).bind fun v4 =>
  if v4.1 = 0 then (
  if v4.1 = 0 ∨ v4.1 = 1 then some (v4.1, v4.2) else none)
  else (
  (fR v4.2 x0 10 7).bind fun v5 =>
  (fR v4.2 x0 10 6).bind fun v6 =>
  (aI 0 v4.2 v6 x2).bind fun v7 =>
  (fI v4.2 x0 10 27).bind fun v8 =>
  (sI 0 v4.2 v5 (((40 : Int32) * x2) + v7) (v8 - (1 : Int32))).bind fun M9 =>
  (fR M9 x0 10 6).bind fun v10 =>
  (aI 0 M9 v10 x2).bind fun v11 =>
  (sI 0 M9 v10 x2 (v11 + (1 : Int32))).bind fun M12 =>
  if v4.1 = 0 ∨ v4.1 = 1 then some (v4.1, M12) else none)
def f_X12_runsOn_0 (F : Nat) : Nat → Int32 → Int32 → cM → Option (Int32 × cM) := fun x0 x1 x2 M => b_X12_runsOn_0 F x0 x1 x2 M
def f_X12_runsOn (F : Nat) : Nat → Int32 → Int32 → cM → Option (Int32 × cM) := fun a0 a1 a2 M => if isC M a0 10 = true then f_X12_runsOn_0 F a0 a1 a2 M else none
-- PatchbayScriptModel.line()I
def b_X12_line_135 (F : Nat) (t135 : Nat → Int32 → Int32 → cM → Option (Int32 × cM)) : Nat → Int32 → Int32 → cM → Option (Int32 × cM) := fun x0 x2 x3 M =>
  if (3 : Int32) ≤ x3 then (
  some (x2, M))
  else (
  (fR M x0 10 26).bind fun v1 =>
  (aI 3 M v1 x3).bind fun v2 =>
  if v2 = 0 then (
  t135 x0 x2 (x3 + (1 : Int32)) M)
  else (
  (f_X12_begins F x0 x3 M).bind fun v3 =>
  (f_X12_runsOn F x0 x3 x2 v3).bind fun v4 =>
  t135 x0 x2 (x3 + (1 : Int32)) v4.2))
def f_X12_line_135 (F : Nat) : Nat → Nat → Int32 → Int32 → cM → Option (Int32 × cM) := fun n => Nat.rec (fun _ _ _ _ => none) (fun _ ih x0 x2 x3 M => b_X12_line_135 F (ih) x0 x2 x3 M) n
def b_X12_line_77 (F : Nat) (t77 : Nat → Int32 → Int32 → cM → Option (Int32 × cM)) (t135 : Nat → Int32 → Int32 → cM → Option (Int32 × cM)) : Nat → Int32 → Int32 → cM → Option (Int32 × cM) := fun x0 x2 x3 M =>
  (fI M x0 10 1).bind fun v1 =>
  if v1 ≤ x3 then (
  (fR M x0 10 5).bind fun v2 =>
  (fI M x0 10 1).bind fun v3 =>
  (sI 0 M v2 x2 v3).bind fun M4 =>
  (pF M4 x0 10 1 (.int (0 : Int32))).bind fun M5 =>
  (fI M5 x0 10 3).bind fun v6 =>
  (pF M5 x0 10 3 (.int (v6 + (1 : Int32)))).bind fun M7 =>
  t135 x0 x2 (0 : Int32) M7)
  else (
  (fR M x0 10 4).bind fun v8 =>
  (fR M x0 10 2).bind fun v9 =>
  (aI 0 M v9 x3).bind fun v10 =>
  (sI 0 M v8 (((20 : Int32) * x2) + x3) v10).bind fun M11 =>
  t77 x0 x2 (x3 + (1 : Int32)) M11)
def f_X12_line_77 (F : Nat) : Nat → Nat → Int32 → Int32 → cM → Option (Int32 × cM) := fun n => Nat.rec (fun _ _ _ _ => none) (fun _ ih x0 x2 x3 M => b_X12_line_77 F (ih) (f_X12_line_135 F F) x0 x2 x3 M) n
def b_X12_line_58 (F : Nat) (t77 : Nat → Int32 → Int32 → cM → Option (Int32 × cM)) : Nat → Nat → Int32 → cM → Option (Int32 × cM) := fun x0 s0 s1 M =>
  (pF M s0 10 0 (.int s1)).bind fun M1 =>
  (fI M1 x0 10 0).bind fun v2 =>
  if v2 ≤ 0 then (
  (fI M1 x0 10 3).bind fun v3 =>
  t77 x0 v3 (0 : Int32) M1)
  else (
  some ((0 : Int32), M1))
def f_X12_line_58 (F : Nat) : Nat → Nat → Int32 → cM → Option (Int32 × cM) := fun x0 s0 s1 M => b_X12_line_58 F (f_X12_line_77 F F) x0 s0 s1 M
def b_X12_line_4 (F : Nat) (t4 : Nat → Int32 → Int32 → cM → Option (Int32 × cM)) (t58 : Nat → Nat → Int32 → cM → Option (Int32 × cM)) : Nat → Int32 → Int32 → cM → Option (Int32 × cM) := fun x0 x1 x2 M =>
  if (3 : Int32) ≤ x2 then (
  (fI M x0 10 3).bind fun v1 =>
  if v1 = (8 : Int32) then (
  t58 x0 x0 (1 : Int32) M)
  else (
  (fI M x0 10 27).bind fun v2 =>
  if v2 + x1 ≤ (30 : Int32) then (
  t58 x0 x0 (0 : Int32) M)
  else (
  t58 x0 x0 (1 : Int32) M)))
  else (
  (fR M x0 10 26).bind fun v3 =>
  (aI 3 M v3 x2).bind fun v4 =>
  if v4 = 0 then (
  t4 x0 (x1 + (0 : Int32)) (x2 + (1 : Int32)) M)
  else (
  t4 x0 (x1 + (1 : Int32)) (x2 + (1 : Int32)) M))
def f_X12_line_4 (F : Nat) : Nat → Nat → Int32 → Int32 → cM → Option (Int32 × cM) := fun n => Nat.rec (fun _ _ _ _ => none) (fun _ ih x0 x1 x2 M => b_X12_line_4 F (ih) (f_X12_line_58 F) x0 x1 x2 M) n
def b_X12_line_0 (F : Nat) (t4 : Nat → Int32 → Int32 → cM → Option (Int32 × cM)) : Nat → cM → Option (Int32 × cM) := fun x0 M =>
  t4 x0 (0 : Int32) (0 : Int32) M
def f_X12_line_0 (F : Nat) : Nat → cM → Option (Int32 × cM) := fun x0 M => b_X12_line_0 F (f_X12_line_4 F F) x0 M
def f_X12_line (F : Nat) : Nat → cM → Option (Int32 × cM) := fun a0 M => if isC M a0 10 = true then f_X12_line_0 F a0 M else none
-- PatchbayScriptModel.length(I)I
def b_X12_length_14 (F : Nat) : Nat → Int32 → Nat → Int32 → cM → Option (Int32 × cM) := fun x0 x1 s0 s1 M =>
  (pF M s0 10 0 (.int s1)).bind fun M1 =>
  (fI M1 x0 10 0).bind fun v2 =>
  if v2 ≤ 0 then (
  (f_X12_laysLine F x0 x1 M1).bind fun v3 =>
  (fI v3 x0 10 40).bind fun v4 =>
  some (v4, v3))
  else (
  some ((0 : Int32), M1))
def f_X12_length_14 (F : Nat) : Nat → Int32 → Nat → Int32 → cM → Option (Int32 × cM) := fun x0 x1 s0 s1 M => b_X12_length_14 F x0 x1 s0 s1 M
def b_X12_length_0 (F : Nat) (t14 : Nat → Int32 → Nat → Int32 → cM → Option (Int32 × cM)) : Nat → Int32 → cM → Option (Int32 × cM) := fun x0 x1 M =>
  (f_X12_isLine F x0 x1 M).bind fun v1 =>
  if v1.1 = 0 then (
  t14 x0 x1 x0 (1 : Int32) v1.2)
  else (
  t14 x0 x1 x0 (0 : Int32) v1.2)
def f_X12_length_0 (F : Nat) : Nat → Int32 → cM → Option (Int32 × cM) := fun x0 x1 M => b_X12_length_0 F (f_X12_length_14 F) x0 x1 M
def f_X12_length (F : Nat) : Nat → Int32 → cM → Option (Int32 × cM) := fun a0 a1 M => if isC M a0 10 = true then f_X12_length_0 F a0 a1 M else none
-- PatchbayScriptModel.signAt(II)C
def b_X12_signAt_50 (F : Nat) : Nat → Int32 → cM → Option (Int32 × cM) := fun x0 x2 M =>
  (fI M x0 10 0).bind fun v1 =>
  if v1 ≤ 0 then (
  (fR M x0 10 41).bind fun v2 =>
  (aI 0 M v2 x2).bind fun v3 =>
  if vp_nar .char ((v3.toUInt32 % 65536).toInt32) = (v3.toUInt32 % 65536).toInt32 then some ((v3.toUInt32 % 65536).toInt32, M) else none)
  else (
  some ((32 : Int32), M))
def f_X12_signAt_50 (F : Nat) : Nat → Int32 → cM → Option (Int32 × cM) := fun x0 x2 M => b_X12_signAt_50 F x0 x2 M
def b_X12_signAt_18 (F : Nat) (t50 : Nat → Int32 → cM → Option (Int32 × cM)) : Nat → Int32 → Int32 → Nat → Int32 → cM → Option (Int32 × cM) := fun x0 x1 x2 s0 s1 M =>
  (pF M s0 10 0 (.int s1)).bind fun M1 =>
  (fI M1 x0 10 0).bind fun v2 =>
  if v2 = 0 then (
  (f_X12_laysLine F x0 x1 M1).bind fun v3 =>
  (fI v3 x0 10 40).bind fun v4 =>
  if v4 ≤ x2 then (
  (pF v3 x0 10 0 (.int (1 : Int32))).bind fun M5 =>
  t50 x0 x2 M5)
  else (
  (pF v3 x0 10 0 (.int (0 : Int32))).bind fun M6 =>
  t50 x0 x2 M6))
  else (
  t50 x0 x2 M1)
def f_X12_signAt_18 (F : Nat) : Nat → Int32 → Int32 → Nat → Int32 → cM → Option (Int32 × cM) := fun x0 x1 x2 s0 s1 M => b_X12_signAt_18 F (f_X12_signAt_50 F) x0 x1 x2 s0 s1 M
def b_X12_signAt_0 (F : Nat) (t18 : Nat → Int32 → Int32 → Nat → Int32 → cM → Option (Int32 × cM)) : Nat → Int32 → Int32 → cM → Option (Int32 × cM) := fun x0 x1 x2 M =>
  (f_X12_isLine F x0 x1 M).bind fun v1 =>
  if v1.1 = 0 then (
  t18 x0 x1 x2 x0 (1 : Int32) v1.2)
  else (
  if x2 < 0 then (
  t18 x0 x1 x2 x0 (1 : Int32) v1.2)
  else (
  t18 x0 x1 x2 x0 (0 : Int32) v1.2))
def f_X12_signAt_0 (F : Nat) : Nat → Int32 → Int32 → cM → Option (Int32 × cM) := fun x0 x1 x2 M => b_X12_signAt_0 F (f_X12_signAt_18 F) x0 x1 x2 M
def f_X12_signAt (F : Nat) : Nat → Int32 → Int32 → cM → Option (Int32 × cM) := fun a0 a1 a2 M => if isC M a0 10 = true then f_X12_signAt_0 F a0 a1 a2 M else none
-- PatchbayScriptModel.placeOf(II)I
def b_X12_placeOf_28 (F : Nat) : Nat → Int32 → Int32 → Nat → Int32 → cM → Option (Int32 × cM) := fun x0 x1 x2 s0 s1 M =>
  (pF M s0 10 0 (.int s1)).bind fun M1 =>
  (fI M1 x0 10 0).bind fun v2 =>
  if v2 ≤ 0 then (
  (f_X12_laysLine F x0 x1 M1).bind fun v3 =>
  (f_X12_place F x0 x2 v3).bind fun v4 =>
  some (v4.1, v4.2))
  else (
  some ((0 : Int32), M1))
def f_X12_placeOf_28 (F : Nat) : Nat → Int32 → Int32 → Nat → Int32 → cM → Option (Int32 × cM) := fun x0 x1 x2 s0 s1 M => b_X12_placeOf_28 F x0 x1 x2 s0 s1 M
def b_X12_placeOf_0 (F : Nat) (t28 : Nat → Int32 → Int32 → Nat → Int32 → cM → Option (Int32 × cM)) : Nat → Int32 → Int32 → cM → Option (Int32 × cM) := fun x0 x1 x2 M =>
  (f_X12_isLine F x0 x1 M).bind fun v1 =>
  if v1.1 = 0 then (
  t28 x0 x1 x2 x0 (1 : Int32) v1.2)
  else (
  (f_X12_isIn F x2 (0 : Int32) (29 : Int32) v1.2).bind fun v2 =>
  if v2.1 = 0 then (
  t28 x0 x1 x2 x0 (2 : Int32) v2.2)
  else (
  t28 x0 x1 x2 x0 (0 : Int32) v2.2))
def f_X12_placeOf_0 (F : Nat) : Nat → Int32 → Int32 → cM → Option (Int32 × cM) := fun x0 x1 x2 M => b_X12_placeOf_0 F (f_X12_placeOf_28 F) x0 x1 x2 M
def f_X12_placeOf (F : Nat) : Nat → Int32 → Int32 → cM → Option (Int32 × cM) := fun a0 a1 a2 M => if isC M a0 10 = true then f_X12_placeOf_0 F a0 a1 a2 M else none
-- PatchbayScriptModel.show(II)I
def b_X12_show_195 (F : Nat) : Nat → Int32 → Int32 → Int32 → cM → Option (Int32 × cM) := fun x0 x1 x2 x3 M =>
  (fR M x0 10 7).bind fun v1 =>
  (fR M x0 10 6).bind fun v2 =>
  (aI 0 M v2 x2).bind fun v3 =>
  (sI 0 M v1 (((40 : Int32) * x2) + v3) ((-1 : Int32) - x3)).bind fun M4 =>
  (fR M4 x0 10 6).bind fun v5 =>
  (aI 0 M4 v5 x2).bind fun v6 =>
  (sI 0 M4 v5 x2 (v6 + (1 : Int32))).bind fun M7 =>
  (fR M7 x0 10 8).bind fun v8 =>
  (aI 0 M7 v8 x1).bind fun v9 =>
  some (v9, M7)
def f_X12_show_195 (F : Nat) : Nat → Int32 → Int32 → Int32 → cM → Option (Int32 × cM) := fun x0 x1 x2 x3 M => b_X12_show_195 F x0 x1 x2 x3 M
def b_X12_show_129 (F : Nat) (t129 : Nat → Int32 → Int32 → Int32 → Int32 → cM → Option (Int32 × cM)) (t195 : Nat → Int32 → Int32 → Int32 → cM → Option (Int32 × cM)) : Nat → Int32 → Int32 → Int32 → Int32 → cM → Option (Int32 × cM) := fun x0 x1 x2 x3 x4 M =>
  (fI M x0 10 1).bind fun v1 =>
  if v1 ≤ x4 then (
  (fR M x0 10 13).bind fun v2 =>
  (fI M x0 10 1).bind fun v3 =>
  (sI 0 M v2 x3 v3).bind fun M4 =>
  (fR M4 x0 10 9).bind fun v5 =>
  (sI 0 M4 v5 x3 x2).bind fun M6 =>
  (pF M6 x0 10 1 (.int (0 : Int32))).bind fun M7 =>
  (fR M7 x0 10 8).bind fun v8 =>
  (aI 0 M7 v8 x1).bind fun v9 =>
  (sI 0 M7 v8 x1 (v9 + (1 : Int32))).bind fun M10 =>
  t195 x0 x1 x2 x3 M10)
  else (
  (fR M x0 10 12).bind fun v11 =>
  (fR M x0 10 2).bind fun v12 =>
  (aI 0 M v12 x4).bind fun v13 =>
  (sI 0 M v11 (((20 : Int32) * x3) + x4) v13).bind fun M14 =>
  t129 x0 x1 x2 x3 (x4 + (1 : Int32)) M14)
def f_X12_show_129 (F : Nat) : Nat → Nat → Int32 → Int32 → Int32 → Int32 → cM → Option (Int32 × cM) := fun n => Nat.rec (fun _ _ _ _ _ _ => none) (fun _ ih x0 x1 x2 x3 x4 M => b_X12_show_129 F (ih) (f_X12_show_195 F) x0 x1 x2 x3 x4 M) n
def b_X12_show_82 (F : Nat) (t82 : Nat → Int32 → Int32 → Int32 → Int32 → cM → Option (Int32 × cM)) (t129 : Nat → Int32 → Int32 → Int32 → Int32 → cM → Option (Int32 × cM)) : Nat → Int32 → Int32 → Int32 → Int32 → cM → Option (Int32 × cM) := fun x0 x1 x2 x3 x4 M =>
  (fI M x0 10 40).bind fun v1 =>
  if v1 ≤ x4 then (
  (fR M x0 10 11).bind fun v2 =>
  (fI M x0 10 40).bind fun v3 =>
  (sI 0 M v2 x3 v3).bind fun M4 =>
  t129 x0 x1 x2 x3 (0 : Int32) M4)
  else (
  (fR M x0 10 10).bind fun v5 =>
  (fR M x0 10 41).bind fun v6 =>
  (aI 0 M v6 x4).bind fun v7 =>
  (sI 0 M v5 (((20 : Int32) * x3) + x4) v7).bind fun M8 =>
  t82 x0 x1 x2 x3 (x4 + (1 : Int32)) M8)
def f_X12_show_82 (F : Nat) : Nat → Nat → Int32 → Int32 → Int32 → Int32 → cM → Option (Int32 × cM) := fun n => Nat.rec (fun _ _ _ _ _ _ => none) (fun _ ih x0 x1 x2 x3 x4 M => b_X12_show_82 F (ih) (f_X12_show_129 F F) x0 x1 x2 x3 x4 M) n
def b_X12_show_51 (F : Nat) (t82 : Nat → Int32 → Int32 → Int32 → Int32 → cM → Option (Int32 × cM)) : Nat → Int32 → Int32 → Nat → Int32 → cM → Option (Int32 × cM) := fun x0 x1 x2 s0 s1 M =>
  (pF M s0 10 0 (.int s1)).bind fun M1 =>
  (fI M1 x0 10 0).bind fun v2 =>
  if v2 ≤ 0 then (
  (fR M1 x0 10 8).bind fun v3 =>
  (aI 0 M1 v3 x1).bind fun v4 =>
  let v5 : Int32 := ((4 : Int32) * x1) + v4
  (f_X12_laysLine F x0 x2 M1).bind fun v6 =>
  t82 x0 x1 x2 v5 (0 : Int32) v6)
  else (
  some ((0 : Int32), M1))
def f_X12_show_51 (F : Nat) : Nat → Int32 → Int32 → Nat → Int32 → cM → Option (Int32 × cM) := fun x0 x1 x2 s0 s1 M => b_X12_show_51 F (f_X12_show_82 F F) x0 x1 x2 s0 s1 M
def b_X12_show_0 (F : Nat) (t51 : Nat → Int32 → Int32 → Nat → Int32 → cM → Option (Int32 × cM)) : Nat → Int32 → Int32 → cM → Option (Int32 × cM) := fun x0 x1 x2 M =>
  (f_X12_isTask F x1 M).bind fun v1 =>
  if v1.1 = 0 then (
  t51 x0 x1 x2 x0 (1 : Int32) v1.2)
  else (
  (f_X12_isLine F x0 x2 v1.2).bind fun v2 =>
  if v2.1 = 0 then (
  t51 x0 x1 x2 x0 (1 : Int32) v2.2)
  else (
  (fI v2.2 x0 10 1).bind fun v3 =>
  if v3 = 0 then (
  t51 x0 x1 x2 x0 (2 : Int32) v2.2)
  else (
  (fR v2.2 x0 10 8).bind fun v4 =>
  (aI 0 v2.2 v4 x1).bind fun v5 =>
  if v5 = (4 : Int32) then (
  t51 x0 x1 x2 x0 (2 : Int32) v2.2)
  else (
  (f_X12_isShownOn F x0 x1 x2 v2.2).bind fun v6 =>
  if v6.1 = 0 then (
  t51 x0 x1 x2 x0 (0 : Int32) v6.2)
  else (
  t51 x0 x1 x2 x0 (2 : Int32) v6.2)))))
def f_X12_show_0 (F : Nat) : Nat → Int32 → Int32 → cM → Option (Int32 × cM) := fun x0 x1 x2 M => b_X12_show_0 F (f_X12_show_51 F) x0 x1 x2 M
def f_X12_show (F : Nat) : Nat → Int32 → Int32 → cM → Option (Int32 × cM) := fun a0 a1 a2 M => if isC M a0 10 = true then f_X12_show_0 F a0 a1 a2 M else none
-- PatchbayScriptModel.refuse(II)I
def b_X12_refuse_144 (F : Nat) (t144 : Nat → Int32 → Int32 → Int32 → cM → Option (Int32 × cM)) : Nat → Int32 → Int32 → Int32 → cM → Option (Int32 × cM) := fun x0 x1 x3 x4 M =>
  (fI M x0 10 45).bind fun v1 =>
  if v1 ≤ x4 then (
  (fR M x0 10 18).bind fun v2 =>
  (fI M x0 10 45).bind fun v3 =>
  (sI 0 M v2 x3 v3).bind fun M4 =>
  (fR M4 x0 10 14).bind fun v5 =>
  (aI 0 M4 v5 x1).bind fun v6 =>
  (sI 0 M4 v5 x1 (v6 + (1 : Int32))).bind fun M7 =>
  (fR M7 x0 10 14).bind fun v8 =>
  (aI 0 M7 v8 x1).bind fun v9 =>
  some (v9, M7))
  else (
  (fR M x0 10 17).bind fun v10 =>
  (fR M x0 10 46).bind fun v11 =>
  (aI 0 M v11 x4).bind fun v12 =>
  (sI 0 M v10 (((20 : Int32) * x3) + x4) v12).bind fun M13 =>
  t144 x0 x1 x3 (x4 + (1 : Int32)) M13)
def f_X12_refuse_144 (F : Nat) : Nat → Nat → Int32 → Int32 → Int32 → cM → Option (Int32 × cM) := fun n => Nat.rec (fun _ _ _ _ _ => none) (fun _ ih x0 x1 x3 x4 M => b_X12_refuse_144 F (ih) x0 x1 x3 x4 M) n
def b_X12_refuse_97 (F : Nat) (t97 : Nat → Int32 → Int32 → Int32 → cM → Option (Int32 × cM)) (t144 : Nat → Int32 → Int32 → Int32 → cM → Option (Int32 × cM)) : Nat → Int32 → Int32 → Int32 → cM → Option (Int32 × cM) := fun x0 x1 x3 x4 M =>
  (fI M x0 10 40).bind fun v1 =>
  if v1 ≤ x4 then (
  (fR M x0 10 16).bind fun v2 =>
  (fI M x0 10 40).bind fun v3 =>
  (sI 0 M v2 x3 v3).bind fun M4 =>
  t144 x0 x1 x3 (0 : Int32) M4)
  else (
  (fR M x0 10 15).bind fun v5 =>
  (fR M x0 10 41).bind fun v6 =>
  (aI 0 M v6 x4).bind fun v7 =>
  (sI 0 M v5 (((20 : Int32) * x3) + x4) v7).bind fun M8 =>
  t97 x0 x1 x3 (x4 + (1 : Int32)) M8)
def f_X12_refuse_97 (F : Nat) : Nat → Nat → Int32 → Int32 → Int32 → cM → Option (Int32 × cM) := fun n => Nat.rec (fun _ _ _ _ _ => none) (fun _ ih x0 x1 x3 x4 M => b_X12_refuse_97 F (ih) (f_X12_refuse_144 F F) x0 x1 x3 x4 M) n
def b_X12_refuse_44 (F : Nat) (t97 : Nat → Int32 → Int32 → Int32 → cM → Option (Int32 × cM)) : Nat → Int32 → Int32 → Nat → Int32 → cM → Option (Int32 × cM) := fun x0 x1 x2 s0 s1 M =>
  (pF M s0 10 0 (.int s1)).bind fun M1 =>
  (fI M1 x0 10 0).bind fun v2 =>
  if v2 ≤ 0 then (
  (fR M1 x0 10 14).bind fun v3 =>
  (aI 0 M1 v3 x1).bind fun v4 =>
  let v5 : Int32 := ((4 : Int32) * x1) + v4
  (f_X12_laysLine F x0 x2 M1).bind fun v6 =>
  (fR v6 x0 10 25).bind fun v7 =>
  (aI 0 v6 v7 x1).bind fun v8 =>
  (f_X12_makesBy F x0 ((2 : Int32) * x1) v8 v6).bind fun v9 =>
  if v9.1 = 0 then (
  (f_X12_fails F x0 (2 : Int32) v9.2).bind fun v10 =>
  some (v10.1, v10.2))
  else (
  t97 x0 x1 v5 (0 : Int32) v9.2))
  else (
  some ((0 : Int32), M1))
def f_X12_refuse_44 (F : Nat) : Nat → Int32 → Int32 → Nat → Int32 → cM → Option (Int32 × cM) := fun x0 x1 x2 s0 s1 M => b_X12_refuse_44 F (f_X12_refuse_97 F F) x0 x1 x2 s0 s1 M
def b_X12_refuse_0 (F : Nat) (t44 : Nat → Int32 → Int32 → Nat → Int32 → cM → Option (Int32 × cM)) : Nat → Int32 → Int32 → cM → Option (Int32 × cM) := fun x0 x1 x2 M =>
  (f_X12_isTask F x1 M).bind fun v1 =>
  if v1.1 = 0 then (
  t44 x0 x1 x2 x0 (1 : Int32) v1.2)
  else (
  (f_X12_isLine F x0 x2 v1.2).bind fun v2 =>
  if v2.1 = 0 then (
  t44 x0 x1 x2 x0 (1 : Int32) v2.2)
  else (
  (fR v2.2 x0 10 24).bind fun v3 =>
  (aI 3 v2.2 v3 x1).bind fun v4 =>
  if v4 = 0 then (
  t44 x0 x1 x2 x0 (2 : Int32) v2.2)
  else (
  (fR v2.2 x0 10 14).bind fun v5 =>
  (aI 0 v2.2 v5 x1).bind fun v6 =>
  if v6 = (4 : Int32) then (
  t44 x0 x1 x2 x0 (2 : Int32) v2.2)
  else (
  t44 x0 x1 x2 x0 (0 : Int32) v2.2))))
def f_X12_refuse_0 (F : Nat) : Nat → Int32 → Int32 → cM → Option (Int32 × cM) := fun x0 x1 x2 M => b_X12_refuse_0 F (f_X12_refuse_44 F) x0 x1 x2 M
def f_X12_refuse (F : Nat) : Nat → Int32 → Int32 → cM → Option (Int32 × cM) := fun a0 a1 a2 M => if isC M a0 10 = true then f_X12_refuse_0 F a0 a1 a2 M else none
-- PatchbayScriptModel.pin(IIIIII)I
def b_X12_pin_282 (F : Nat) (t282 : Nat → Int32 → Int32 → Int32 → cM → Option (Int32 × cM)) : Nat → Int32 → Int32 → Int32 → cM → Option (Int32 × cM) := fun x0 x1 x11 x12 M =>
  if ((4 : Int32) * x1) + (4 : Int32) ≤ x12 then (
  some (x11, M))
  else (
  (fR M x0 10 19).bind fun v1 =>
  (aI 0 M v1 x12).bind fun v2 =>
  if v2 = (-1 : Int32) then (
  let v3 : Int32 := x11 + (0 : Int32)
  t282 x0 x1 v3 (x12 + (1 : Int32)) M)
  else (
  let v4 : Int32 := x11 + (1 : Int32)
  t282 x0 x1 v4 (x12 + (1 : Int32)) M))
def f_X12_pin_282 (F : Nat) : Nat → Nat → Int32 → Int32 → Int32 → cM → Option (Int32 × cM) := fun n => Nat.rec (fun _ _ _ _ _ => none) (fun _ ih x0 x1 x11 x12 M => b_X12_pin_282 F (ih) x0 x1 x11 x12 M) n
def b_X12_pin_235 (F : Nat) (t235 : Nat → Int32 → Int32 → Int32 → cM → Option (Int32 × cM)) (t282 : Nat → Int32 → Int32 → Int32 → cM → Option (Int32 × cM)) : Nat → Int32 → Int32 → Int32 → cM → Option (Int32 × cM) := fun x0 x1 x10 x11 M =>
  (fI M x0 10 1).bind fun v1 =>
  if v1 ≤ x11 then (
  (pF M x0 10 1 (.int (0 : Int32))).bind fun M2 =>
  t282 x0 x1 (0 : Int32) ((4 : Int32) * x1) M2)
  else (
  (fR M x0 10 23).bind fun v3 =>
  (fR M x0 10 2).bind fun v4 =>
  (aI 0 M v4 x11).bind fun v5 =>
  (sI 0 M v3 (((4 : Int32) * x10) + x11) v5).bind fun M6 =>
  t235 x0 x1 x10 (x11 + (1 : Int32)) M6)
def f_X12_pin_235 (F : Nat) : Nat → Nat → Int32 → Int32 → Int32 → cM → Option (Int32 × cM) := fun n => Nat.rec (fun _ _ _ _ _ => none) (fun _ ih x0 x1 x10 x11 M => b_X12_pin_235 F (ih) (f_X12_pin_282 F F) x0 x1 x10 x11 M) n
def b_X12_pin_209 (F : Nat) (t235 : Nat → Int32 → Int32 → Int32 → cM → Option (Int32 × cM)) (t282 : Nat → Int32 → Int32 → Int32 → cM → Option (Int32 × cM)) : Nat → Int32 → Int32 → Int32 → Int32 → Int32 → Nat → Int32 → Int32 → cM → Option (Int32 × cM) := fun x0 x1 x3 x5 x6 x10 s0 s1 s2 M =>
  (sI 0 M s0 s1 s2).bind fun M1 =>
  (fR M1 x0 10 21).bind fun v2 =>
  (sI 0 M1 v2 x10 x5).bind fun M3 =>
  (fR M3 x0 10 22).bind fun v4 =>
  (sI 0 M3 v4 x10 x6).bind fun M5 =>
  if x3 = 0 then (
  t235 x0 x1 x10 (0 : Int32) M5)
  else (
  t282 x0 x1 (0 : Int32) ((4 : Int32) * x1) M5)
def f_X12_pin_209 (F : Nat) : Nat → Int32 → Int32 → Int32 → Int32 → Int32 → Nat → Int32 → Int32 → cM → Option (Int32 × cM) := fun x0 x1 x3 x5 x6 x10 s0 s1 s2 M => b_X12_pin_209 F (f_X12_pin_235 F F) (f_X12_pin_282 F F) x0 x1 x3 x5 x6 x10 s0 s1 s2 M
def b_X12_pin_163 (F : Nat) (t209 : Nat → Int32 → Int32 → Int32 → Int32 → Int32 → Nat → Int32 → Int32 → cM → Option (Int32 × cM)) : Nat → Int32 → Int32 → Int32 → Int32 → Int32 → Int32 → Nat → Int32 → cM → Option (Int32 × cM) := fun x0 x1 x2 x3 x4 x5 x6 s0 s1 M =>
  (pF M s0 10 0 (.int s1)).bind fun M1 =>
  (fI M1 x0 10 0).bind fun v2 =>
  if v2 ≤ 0 then (
  let v3 : Int32 := ((4 : Int32) * x1) + x2
  (fR M1 x0 10 19).bind fun v4 =>
  (sI 0 M1 v4 v3 x3).bind fun M5 =>
  (fR M5 x0 10 20).bind fun v6 =>
  if x3 = 0 then (
  (fI M5 x0 10 1).bind fun v7 =>
  t209 x0 x1 x3 x5 x6 v3 v6 v3 v7 M5)
  else (
  t209 x0 x1 x3 x5 x6 v3 v6 v3 x4 M5))
  else (
  some ((0 : Int32), M1))
def f_X12_pin_163 (F : Nat) : Nat → Int32 → Int32 → Int32 → Int32 → Int32 → Int32 → Nat → Int32 → cM → Option (Int32 × cM) := fun x0 x1 x2 x3 x4 x5 x6 s0 s1 M => b_X12_pin_163 F (f_X12_pin_209 F) x0 x1 x2 x3 x4 x5 x6 s0 s1 M
def b_X12_pin_110 (F : Nat) (t163 : Nat → Int32 → Int32 → Int32 → Int32 → Int32 → Int32 → Nat → Int32 → cM → Option (Int32 × cM)) : Nat → Int32 → Int32 → Int32 → Int32 → Int32 → Int32 → Int32 → cM → Option (Int32 × cM) := fun x0 x1 x2 x3 x4 x5 x6 s0 M =>
  (f_X12_isTask F x1 M).bind fun v1 =>
  if v1.1 = 0 then (
  t163 x0 x1 x2 x3 x4 x5 x6 x0 (1 : Int32) v1.2)
  else (
  (f_X12_isIn F x2 (0 : Int32) (3 : Int32) v1.2).bind fun v2 =>
  if v2.1 = 0 then (
  t163 x0 x1 x2 x3 x4 x5 x6 x0 (1 : Int32) v2.2)
  else (
  if s0 = 0 then (
  t163 x0 x1 x2 x3 x4 x5 x6 x0 (2 : Int32) v2.2)
  else (
  if x3 = 0 then (
  (fI v2.2 x0 10 1).bind fun v3 =>
  (f_X12_isIn F v3 (1 : Int32) (4 : Int32) v2.2).bind fun v4 =>
  if v4.1 = 0 then (
  t163 x0 x1 x2 x3 x4 x5 x6 x0 (3 : Int32) v4.2)
  else (
  t163 x0 x1 x2 x3 x4 x5 x6 x0 (0 : Int32) v4.2))
  else (
  t163 x0 x1 x2 x3 x4 x5 x6 x0 (0 : Int32) v2.2))))
def f_X12_pin_110 (F : Nat) : Nat → Int32 → Int32 → Int32 → Int32 → Int32 → Int32 → Int32 → cM → Option (Int32 × cM) := fun x0 x1 x2 x3 x4 x5 x6 s0 M => b_X12_pin_110 F (f_X12_pin_163 F) x0 x1 x2 x3 x4 x5 x6 s0 M
def b_X12_pin_95 (F : Nat) (t110 : Nat → Int32 → Int32 → Int32 → Int32 → Int32 → Int32 → Int32 → cM → Option (Int32 × cM)) : Nat → Int32 → Int32 → Int32 → Int32 → Int32 → Int32 → Int32 → cM → Option (Int32 × cM) := fun x0 x1 x2 x3 x4 x5 x6 x8 M =>
  if x3 = (2 : Int32) then (
  if x8 = 0 then (
  t110 x0 x1 x2 x3 x4 x5 x6 (0 : Int32) M)
  else (
  t110 x0 x1 x2 x3 x4 x5 x6 (1 : Int32) M))
  else (
  t110 x0 x1 x2 x3 x4 x5 x6 (0 : Int32) M)
def f_X12_pin_95 (F : Nat) : Nat → Int32 → Int32 → Int32 → Int32 → Int32 → Int32 → Int32 → cM → Option (Int32 × cM) := fun x0 x1 x2 x3 x4 x5 x6 x8 M => b_X12_pin_95 F (f_X12_pin_110 F) x0 x1 x2 x3 x4 x5 x6 x8 M
def b_X12_pin_74 (F : Nat) (t95 : Nat → Int32 → Int32 → Int32 → Int32 → Int32 → Int32 → Int32 → cM → Option (Int32 × cM)) (t110 : Nat → Int32 → Int32 → Int32 → Int32 → Int32 → Int32 → Int32 → cM → Option (Int32 × cM)) : Nat → Int32 → Int32 → Int32 → Int32 → Int32 → Int32 → Int32 → Int32 → cM → Option (Int32 × cM) := fun x0 x1 x2 x3 x4 x5 x6 x7 s0 M =>
  if x3 = (-1 : Int32) then (
  t110 x0 x1 x2 x3 x4 x5 x6 (1 : Int32) M)
  else (
  if x3 = 0 then (
  t110 x0 x1 x2 x3 x4 x5 x6 (1 : Int32) M)
  else (
  if x3 = (1 : Int32) then (
  if x7 = 0 then (
  t95 x0 x1 x2 x3 x4 x5 x6 s0 M)
  else (
  t110 x0 x1 x2 x3 x4 x5 x6 (1 : Int32) M))
  else (
  t95 x0 x1 x2 x3 x4 x5 x6 s0 M)))
def f_X12_pin_74 (F : Nat) : Nat → Int32 → Int32 → Int32 → Int32 → Int32 → Int32 → Int32 → Int32 → cM → Option (Int32 × cM) := fun x0 x1 x2 x3 x4 x5 x6 x7 s0 M => b_X12_pin_74 F (f_X12_pin_95 F) (f_X12_pin_110 F) x0 x1 x2 x3 x4 x5 x6 x7 s0 M
def b_X12_pin_37 (F : Nat) (t74 : Nat → Int32 → Int32 → Int32 → Int32 → Int32 → Int32 → Int32 → Int32 → cM → Option (Int32 × cM)) : Nat → Int32 → Int32 → Int32 → Int32 → Int32 → Int32 → Int32 → cM → Option (Int32 × cM) := fun x0 x1 x2 x3 x4 x5 x6 s0 M =>
  (f_X12_isIn F x4 (0 : Int32) (3 : Int32) M).bind fun v1 =>
  if v1.1 = 0 then (
  t74 x0 x1 x2 x3 x4 x5 x6 s0 (0 : Int32) v1.2)
  else (
  (f_X12_isIn F x5 (0 : Int32) (2 : Int32) v1.2).bind fun v2 =>
  if v2.1 = 0 then (
  t74 x0 x1 x2 x3 x4 x5 x6 s0 (0 : Int32) v2.2)
  else (
  (f_X12_isIn F x6 (0 : Int32) (5 : Int32) v2.2).bind fun v3 =>
  if v3.1 = 0 then (
  t74 x0 x1 x2 x3 x4 x5 x6 s0 (0 : Int32) v3.2)
  else (
  t74 x0 x1 x2 x3 x4 x5 x6 s0 (1 : Int32) v3.2)))
def f_X12_pin_37 (F : Nat) : Nat → Int32 → Int32 → Int32 → Int32 → Int32 → Int32 → Int32 → cM → Option (Int32 × cM) := fun x0 x1 x2 x3 x4 x5 x6 s0 M => b_X12_pin_37 F (f_X12_pin_74 F) x0 x1 x2 x3 x4 x5 x6 s0 M
def b_X12_pin_0 (F : Nat) (t37 : Nat → Int32 → Int32 → Int32 → Int32 → Int32 → Int32 → Int32 → cM → Option (Int32 × cM)) : Nat → Int32 → Int32 → Int32 → Int32 → Int32 → Int32 → cM → Option (Int32 × cM) := fun x0 x1 x2 x3 x4 x5 x6 M =>
  (f_X12_isIn F x4 (0 : Int32) (29 : Int32) M).bind fun v1 =>
  if v1.1 = 0 then (
  t37 x0 x1 x2 x3 x4 x5 x6 (0 : Int32) v1.2)
  else (
  (f_X12_isIn F x5 (0 : Int32) (29 : Int32) v1.2).bind fun v2 =>
  if v2.1 = 0 then (
  t37 x0 x1 x2 x3 x4 x5 x6 (0 : Int32) v2.2)
  else (
  (f_X12_isIn F x6 (0 : Int32) (3 : Int32) v2.2).bind fun v3 =>
  if v3.1 = 0 then (
  t37 x0 x1 x2 x3 x4 x5 x6 (0 : Int32) v3.2)
  else (
  t37 x0 x1 x2 x3 x4 x5 x6 (1 : Int32) v3.2)))
def f_X12_pin_0 (F : Nat) : Nat → Int32 → Int32 → Int32 → Int32 → Int32 → Int32 → cM → Option (Int32 × cM) := fun x0 x1 x2 x3 x4 x5 x6 M => b_X12_pin_0 F (f_X12_pin_37 F) x0 x1 x2 x3 x4 x5 x6 M
def f_X12_pin (F : Nat) : Nat → Int32 → Int32 → Int32 → Int32 → Int32 → Int32 → cM → Option (Int32 × cM) := fun a0 a1 a2 a3 a4 a5 a6 M => if isC M a0 10 = true then f_X12_pin_0 F a0 a1 a2 a3 a4 a5 a6 M else none
-- PatchbayScriptModel.compares([IIII)I
def b_X12_compares_52 (F : Nat) : Int32 → cM → Option (Int32 × cM) := fun x5 M =>
  if 0 ≤ x5 then (
  if x5 ≤ 0 then (
  some ((0 : Int32), M))
  else (
  some ((1 : Int32), M)))
  else (
  some ((-1 : Int32), M))
def f_X12_compares_52 (F : Nat) : Int32 → cM → Option (Int32 × cM) := fun x5 M => b_X12_compares_52 F x5 M
def b_X12_compares_14 (F : Nat) (t14 : Nat → Nat → Int32 → Int32 → Int32 → Int32 → Int32 → cM → Option (Int32 × cM)) (t52 : Int32 → cM → Option (Int32 × cM)) : Nat → Nat → Int32 → Int32 → Int32 → Int32 → Int32 → cM → Option (Int32 × cM) := fun x0 x1 x2 x3 x4 x5 x6 M =>
  if x3 ≤ x6 then (
  t52 x5 M)
  else (
  if x5 = 0 then (
  (aI 0 M x1 (x2 + x6)).bind fun v1 =>
  (fR M x0 10 48).bind fun v2 =>
  (aI 0 M v2 (((4 : Int32) * x4) + x6)).bind fun v3 =>
  t14 x0 x1 x2 x3 x4 (v1 - v3) (x6 + (1 : Int32)) M)
  else (
  t52 x5 M))
def f_X12_compares_14 (F : Nat) : Nat → Nat → Nat → Int32 → Int32 → Int32 → Int32 → Int32 → cM → Option (Int32 × cM) := fun n => Nat.rec (fun _ _ _ _ _ _ _ _ => none) (fun _ ih x0 x1 x2 x3 x4 x5 x6 M => b_X12_compares_14 F (ih) (f_X12_compares_52 F) x0 x1 x2 x3 x4 x5 x6 M) n
def b_X12_compares_0 (F : Nat) (t14 : Nat → Nat → Int32 → Int32 → Int32 → Int32 → Int32 → cM → Option (Int32 × cM)) : Nat → Nat → Int32 → Int32 → Int32 → cM → Option (Int32 × cM) := fun x0 x1 x2 x3 x4 M =>
  (fR M x0 10 49).bind fun v1 =>
  (aI 0 M v1 x4).bind fun v2 =>
  t14 x0 x1 x2 x3 x4 (x3 - v2) (0 : Int32) M
def f_X12_compares_0 (F : Nat) : Nat → Nat → Int32 → Int32 → Int32 → cM → Option (Int32 × cM) := fun x0 x1 x2 x3 x4 M => b_X12_compares_0 F (f_X12_compares_14 F F) x0 x1 x2 x3 x4 M
def f_X12_compares (F : Nat) : Nat → Nat → Int32 → Int32 → Int32 → cM → Option (Int32 × cM) := fun a0 a1 a2 a3 a4 M => if isC M a0 10 = true then f_X12_compares_0 F a0 a1 a2 a3 a4 M else none
-- PatchbayScriptModel.addsConst([III)V
def b_X12_addsConst_139 (F : Nat) (t139 : Nat → Nat → Int32 → Int32 → Int32 → Int32 → cM → Option (cM)) : Nat → Nat → Int32 → Int32 → Int32 → Int32 → cM → Option (cM) := fun x0 x1 x2 x3 x4 x5 M =>
  if x3 ≤ x5 then (
  (fI M x0 10 47).bind fun v1 =>
  (pF M x0 10 47 (.int (v1 + (1 : Int32)))).bind fun M2 =>
  some M2)
  else (
  (fR M x0 10 48).bind fun v3 =>
  (aI 0 M x1 (x2 + x5)).bind fun v4 =>
  (sI 0 M v3 (((4 : Int32) * x4) + x5) v4).bind fun M5 =>
  t139 x0 x1 x2 x3 x4 (x5 + (1 : Int32)) M5)
def f_X12_addsConst_139 (F : Nat) : Nat → Nat → Nat → Int32 → Int32 → Int32 → Int32 → cM → Option (cM) := fun n => Nat.rec (fun _ _ _ _ _ _ _ => none) (fun _ ih x0 x1 x2 x3 x4 x5 M => b_X12_addsConst_139 F (ih) x0 x1 x2 x3 x4 x5 M) n
def b_X12_addsConst_84 (F : Nat) (t58 : Nat → Nat → Int32 → Int32 → Int32 → Int32 → cM → Option (cM)) (t84 : Nat → Nat → Int32 → Int32 → Int32 → Int32 → Int32 → cM → Option (cM)) : Nat → Nat → Int32 → Int32 → Int32 → Int32 → Int32 → cM → Option (cM) := fun x0 x1 x2 x3 x4 x5 x6 M =>
  if (4 : Int32) ≤ x6 then (
  t58 x0 x1 x2 x3 x4 (x5 + (-1 : Int32)) M)
  else (
  (fR M x0 10 48).bind fun v1 =>
  (fR M x0 10 48).bind fun v2 =>
  (aI 0 M v2 ((((4 : Int32) * x5) - (4 : Int32)) + x6)).bind fun v3 =>
  (sI 0 M v1 (((4 : Int32) * x5) + x6) v3).bind fun M4 =>
  t84 x0 x1 x2 x3 x4 x5 (x6 + (1 : Int32)) M4)
def f_X12_addsConst_84 (F : Nat) (k58 : Nat → Nat → Int32 → Int32 → Int32 → Int32 → cM → Option (cM)) : Nat → Nat → Nat → Int32 → Int32 → Int32 → Int32 → Int32 → cM → Option (cM) := fun n => Nat.rec (fun _ _ _ _ _ _ _ _ => none) (fun _ ih x0 x1 x2 x3 x4 x5 x6 M => b_X12_addsConst_84 F (k58) (ih) x0 x1 x2 x3 x4 x5 x6 M) n
def b_X12_addsConst_58 (F : Nat) (t84 : Nat → Nat → Int32 → Int32 → Int32 → Int32 → Int32 → cM → Option (cM)) (t139 : Nat → Nat → Int32 → Int32 → Int32 → Int32 → cM → Option (cM)) : Nat → Nat → Int32 → Int32 → Int32 → Int32 → cM → Option (cM) := fun x0 x1 x2 x3 x4 x5 M =>
  if x5 ≤ x4 then (
  (fR M x0 10 49).bind fun v1 =>
  (sI 0 M v1 x4 x3).bind fun M2 =>
  t139 x0 x1 x2 x3 x4 (0 : Int32) M2)
  else (
  (fR M x0 10 49).bind fun v3 =>
  (fR M x0 10 49).bind fun v4 =>
  (aI 0 M v4 (x5 - (1 : Int32))).bind fun v5 =>
  (sI 0 M v3 x5 v5).bind fun M6 =>
  t84 x0 x1 x2 x3 x4 x5 (0 : Int32) M6)
def f_X12_addsConst_58 (F : Nat) : Nat → Nat → Nat → Int32 → Int32 → Int32 → Int32 → cM → Option (cM) := fun n => Nat.rec (fun _ _ _ _ _ _ _ => none) (fun _ ih x0 x1 x2 x3 x4 x5 M => b_X12_addsConst_58 F (f_X12_addsConst_84 F ih F) (f_X12_addsConst_139 F F) x0 x1 x2 x3 x4 x5 M) n
def b_X12_addsConst_30 (F : Nat) (t58 : Nat → Nat → Int32 → Int32 → Int32 → Int32 → cM → Option (cM)) : Nat → Nat → Int32 → Int32 → Int32 → cM → Option (cM) := fun x0 x1 x2 x3 x4 M =>
  (fI M x0 10 47).bind fun v1 =>
  if v1 ≤ x4 then (
  (fI M x0 10 47).bind fun v2 =>
  t58 x0 x1 x2 x3 x4 v2 M)
  else (
  (f_X12_compares F x0 x1 x2 x3 x4 M).bind fun v3 =>
  if v3.1 = 0 then (
  some v3.2)
  else (
  (fI v3.2 x0 10 47).bind fun v4 =>
  t58 x0 x1 x2 x3 x4 v4 v3.2))
def f_X12_addsConst_30 (F : Nat) : Nat → Nat → Int32 → Int32 → Int32 → cM → Option (cM) := fun x0 x1 x2 x3 x4 M => b_X12_addsConst_30 F (f_X12_addsConst_58 F F) x0 x1 x2 x3 x4 M
def b_X12_addsConst_3 (F : Nat) (t3 : Nat → Nat → Int32 → Int32 → Int32 → cM → Option (cM)) (t30 : Nat → Nat → Int32 → Int32 → Int32 → cM → Option (cM)) : Nat → Nat → Int32 → Int32 → Int32 → cM → Option (cM) := fun x0 x1 x2 x3 x4 M =>
  (fI M x0 10 47).bind fun v1 =>
  if v1 ≤ x4 then (
  t30 x0 x1 x2 x3 x4 M)
  else (
  (f_X12_compares F x0 x1 x2 x3 x4 M).bind fun v2 =>
  if v2.1 ≤ 0 then (
  t30 x0 x1 x2 x3 x4 v2.2)
  else (
  t3 x0 x1 x2 x3 (x4 + (1 : Int32)) v2.2))
def f_X12_addsConst_3 (F : Nat) : Nat → Nat → Nat → Int32 → Int32 → Int32 → cM → Option (cM) := fun n => Nat.rec (fun _ _ _ _ _ _ => none) (fun _ ih x0 x1 x2 x3 x4 M => b_X12_addsConst_3 F (ih) (f_X12_addsConst_30 F) x0 x1 x2 x3 x4 M) n
def b_X12_addsConst_0 (F : Nat) (t3 : Nat → Nat → Int32 → Int32 → Int32 → cM → Option (cM)) : Nat → Nat → Int32 → Int32 → cM → Option (cM) := fun x0 x1 x2 x3 M =>
  t3 x0 x1 x2 x3 (0 : Int32) M
def f_X12_addsConst_0 (F : Nat) : Nat → Nat → Int32 → Int32 → cM → Option (cM) := fun x0 x1 x2 x3 M => b_X12_addsConst_0 F (f_X12_addsConst_3 F F) x0 x1 x2 x3 M
def f_X12_addsConst (F : Nat) : Nat → Nat → Int32 → Int32 → cM → Option (cM) := fun a0 a1 a2 a3 M => if isC M a0 10 = true then f_X12_addsConst_0 F a0 a1 a2 a3 M else none
-- PatchbayScriptModel.matches(IIZ)V
def b_X12_matches_120 (F : Nat) : Nat → Int32 → Int32 → Int32 → cM → Option (cM) := fun x0 x1 x2 x5 M =>
  (fR M x0 10 51).bind fun v1 =>
  (sI 0 M v1 (((4000 : Int32) * x1) + x2) x5).bind fun M2 =>
  (fR M2 x0 10 52).bind fun v3 =>
  (fI M2 x0 10 45).bind fun v4 =>
  (sI 0 M2 v3 (((4000 : Int32) * x1) + x2) v4).bind fun M5 =>
  some M5
def f_X12_matches_120 (F : Nat) : Nat → Int32 → Int32 → Int32 → cM → Option (cM) := fun x0 x1 x2 x5 M => b_X12_matches_120 F x0 x1 x2 x5 M
def b_X12_matches_96 (F : Nat) (t16 : Nat → Int32 → Int32 → Int32 → Int32 → Int32 → Int32 → cM → Option (cM)) : Nat → Int32 → Int32 → Int32 → Int32 → Int32 → Int32 → Int32 → cM → Option (cM) := fun x0 x1 x2 x3 x4 x5 x6 x7 M =>
  if x7 = 0 then (
  let v1 : Int32 := x5 ||| (0 : Int32)
  t16 x0 x1 x2 x3 x4 v1 (x6 + (1 : Int32)) M)
  else (
  let v2 : Int32 := x5 ||| ((1 : Int32) <<< (x6 &&& 31))
  t16 x0 x1 x2 x3 x4 v2 (x6 + (1 : Int32)) M)
def f_X12_matches_96 (F : Nat) (k16 : Nat → Int32 → Int32 → Int32 → Int32 → Int32 → Int32 → cM → Option (cM)) : Nat → Int32 → Int32 → Int32 → Int32 → Int32 → Int32 → Int32 → cM → Option (cM) := fun x0 x1 x2 x3 x4 x5 x6 x7 M => b_X12_matches_96 F (k16) x0 x1 x2 x3 x4 x5 x6 x7 M
def b_X12_matches_43 (F : Nat) (t43 : Nat → Int32 → Int32 → Int32 → Int32 → Int32 → Int32 → Int32 → Int32 → cM → Option (cM)) (t96 : Nat → Int32 → Int32 → Int32 → Int32 → Int32 → Int32 → Int32 → cM → Option (cM)) : Nat → Int32 → Int32 → Int32 → Int32 → Int32 → Int32 → Int32 → Int32 → cM → Option (cM) := fun x0 x1 x2 x3 x4 x5 x6 x7 x8 M =>
  (fI M x0 10 45).bind fun v1 =>
  if v1 ≤ x8 then (
  t96 x0 x1 x2 x3 x4 x5 x6 x7 M)
  else (
  if x7 = 0 then (
  t96 x0 x1 x2 x3 x4 x5 x6 x7 M)
  else (
  (fR M x0 10 12).bind fun v2 =>
  (aI 0 M v2 ((((20 : Int32) * x4) + x6) + x8)).bind fun v3 =>
  (fR M x0 10 46).bind fun v4 =>
  (aI 0 M v4 x8).bind fun v5 =>
  if v3 = v5 then (
  t43 x0 x1 x2 x3 x4 x5 x6 (1 : Int32) (x8 + (1 : Int32)) M)
  else (
  t43 x0 x1 x2 x3 x4 x5 x6 (0 : Int32) (x8 + (1 : Int32)) M)))
def f_X12_matches_43 (F : Nat) (k16 : Nat → Int32 → Int32 → Int32 → Int32 → Int32 → Int32 → cM → Option (cM)) : Nat → Nat → Int32 → Int32 → Int32 → Int32 → Int32 → Int32 → Int32 → Int32 → cM → Option (cM) := fun n => Nat.rec (fun _ _ _ _ _ _ _ _ _ _ => none) (fun _ ih x0 x1 x2 x3 x4 x5 x6 x7 x8 M => b_X12_matches_43 F (ih) (f_X12_matches_96 F k16) x0 x1 x2 x3 x4 x5 x6 x7 x8 M) n
def b_X12_matches_16 (F : Nat) (t43 : Nat → Int32 → Int32 → Int32 → Int32 → Int32 → Int32 → Int32 → Int32 → cM → Option (cM)) (t120 : Nat → Int32 → Int32 → Int32 → cM → Option (cM)) : Nat → Int32 → Int32 → Int32 → Int32 → Int32 → Int32 → cM → Option (cM) := fun x0 x1 x2 x3 x4 x5 x6 M =>
  (fI M x0 10 45).bind fun v1 =>
  (fR M x0 10 13).bind fun v2 =>
  (aI 0 M v2 x4).bind fun v3 =>
  if v3 < x6 + v1 then (
  t120 x0 x1 x2 x5 M)
  else (
  if x3 = 0 then (
  t120 x0 x1 x2 x5 M)
  else (
  t43 x0 x1 x2 x3 x4 x5 x6 (1 : Int32) (0 : Int32) M))
def f_X12_matches_16 (F : Nat) : Nat → Nat → Int32 → Int32 → Int32 → Int32 → Int32 → Int32 → cM → Option (cM) := fun n => Nat.rec (fun _ _ _ _ _ _ _ _ => none) (fun _ ih x0 x1 x2 x3 x4 x5 x6 M => b_X12_matches_16 F (f_X12_matches_43 F ih F) (f_X12_matches_120 F) x0 x1 x2 x3 x4 x5 x6 M) n
def b_X12_matches_0 (F : Nat) (t16 : Nat → Int32 → Int32 → Int32 → Int32 → Int32 → Int32 → cM → Option (cM)) : Nat → Int32 → Int32 → Int32 → cM → Option (cM) := fun x0 x1 x2 x3 M =>
  (fI M x0 10 56).bind fun v1 =>
  let v2 : Int32 := ((4 : Int32) * v1) + x1
  t16 x0 x1 x2 x3 v2 (0 : Int32) (0 : Int32) M
def f_X12_matches_0 (F : Nat) : Nat → Int32 → Int32 → Int32 → cM → Option (cM) := fun x0 x1 x2 x3 M => b_X12_matches_0 F (f_X12_matches_16 F F) x0 x1 x2 x3 M
def f_X12_matches (F : Nat) : Nat → Int32 → Int32 → Int32 → cM → Option (cM) := fun a0 a1 a2 a3 M => if isC M a0 10 = true then f_X12_matches_0 F a0 a1 a2 a3 M else none
-- PatchbayScriptModel.pinOf(I)I
def b_X12_pinOf_67 (F : Nat) : Nat → Int32 → Int32 → cM → Option (Int32 × cM) := fun x0 x1 x2 M =>
  (fR M x0 10 19).bind fun v1 =>
  (aI 0 M v1 x1).bind fun v2 =>
  if v2 = 0 then (
  some (x2, M))
  else (
  (fR M x0 10 19).bind fun v3 =>
  (aI 0 M v3 x1).bind fun v4 =>
  if v4 = (1 : Int32) then (
  (fI M x0 10 47).bind fun v5 =>
  (fR M x0 10 20).bind fun v6 =>
  (aI 0 M v6 x1).bind fun v7 =>
  (fR M x0 10 21).bind fun v8 =>
  (aI 0 M v8 x1).bind fun v9 =>
  (fR M x0 10 22).bind fun v10 =>
  (aI 0 M v10 x1).bind fun v11 =>
  some ((v5 + (((v7 * (30 : Int32)) + v9) * (4 : Int32))) + v11, M))
  else (
  (fI M x0 10 47).bind fun v12 =>
  (fR M x0 10 20).bind fun v13 =>
  (aI 0 M v13 x1).bind fun v14 =>
  (fR M x0 10 21).bind fun v15 =>
  (aI 0 M v15 x1).bind fun v16 =>
  (fR M x0 10 22).bind fun v17 =>
  (aI 0 M v17 x1).bind fun v18 =>
  some (((v12 + (3600 : Int32)) + (((v14 * (3 : Int32)) + v16) * (6 : Int32))) + v18, M)))
def f_X12_pinOf_67 (F : Nat) : Nat → Int32 → Int32 → cM → Option (Int32 × cM) := fun x0 x1 x2 M => b_X12_pinOf_67 F x0 x1 x2 M
def b_X12_pinOf_17 (F : Nat) (t17 : Nat → Int32 → Int32 → Int32 → cM → Option (Int32 × cM)) (t67 : Nat → Int32 → Int32 → cM → Option (Int32 × cM)) : Nat → Int32 → Int32 → Int32 → cM → Option (Int32 × cM) := fun x0 x1 x2 x3 M =>
  (fI M x0 10 47).bind fun v1 =>
  if v1 ≤ x3 then (
  t67 x0 x1 x2 M)
  else (
  (fR M x0 10 19).bind fun v2 =>
  (aI 0 M v2 x1).bind fun v3 =>
  if v3 = 0 then (
  (fR M x0 10 23).bind fun v4 =>
  (fR M x0 10 20).bind fun v5 =>
  (aI 0 M v5 x1).bind fun v6 =>
  (f_X12_compares F x0 v4 ((4 : Int32) * x1) v6 x3 M).bind fun v7 =>
  if v7.1 = 0 then (
  t17 x0 x1 x3 (x3 + (1 : Int32)) v7.2)
  else (
  t17 x0 x1 x2 (x3 + (1 : Int32)) v7.2))
  else (
  t67 x0 x1 x2 M))
def f_X12_pinOf_17 (F : Nat) : Nat → Nat → Int32 → Int32 → Int32 → cM → Option (Int32 × cM) := fun n => Nat.rec (fun _ _ _ _ _ => none) (fun _ ih x0 x1 x2 x3 M => b_X12_pinOf_17 F (ih) (f_X12_pinOf_67 F) x0 x1 x2 x3 M) n
def b_X12_pinOf_0 (F : Nat) (t17 : Nat → Int32 → Int32 → Int32 → cM → Option (Int32 × cM)) : Nat → Int32 → cM → Option (Int32 × cM) := fun x0 x1 M =>
  (fR M x0 10 19).bind fun v1 =>
  (aI 0 M v1 x1).bind fun v2 =>
  if v2 = (-1 : Int32) then (
  some ((-1 : Int32), M))
  else (
  t17 x0 x1 (-2 : Int32) (0 : Int32) M)
def f_X12_pinOf_0 (F : Nat) : Nat → Int32 → cM → Option (Int32 × cM) := fun x0 x1 M => b_X12_pinOf_0 F (f_X12_pinOf_17 F F) x0 x1 M
def f_X12_pinOf (F : Nat) : Nat → Int32 → cM → Option (Int32 × cM) := fun a0 a1 M => if isC M a0 10 = true then f_X12_pinOf_0 F a0 a1 M else none
-- PatchbayScriptModel.gathers(I)V
def b_X12_gathers_393 (F : Nat) (t393 : Nat → Int32 → Int32 → cM → Option (cM)) : Nat → Int32 → Int32 → cM → Option (cM) := fun x0 x1 x2 M =>
  if (4 : Int32) ≤ x2 then (
  some M)
  else (
  (fR M x0 10 67).bind fun v1 =>
  (f_X12_pinOf F x0 (((4 : Int32) * x1) + x2) M).bind fun v2 =>
  (sI 0 v2.2 v1 x2 v2.1).bind fun M3 =>
  t393 x0 x1 (x2 + (1 : Int32)) M3)
def f_X12_gathers_393 (F : Nat) : Nat → Nat → Int32 → Int32 → cM → Option (cM) := fun n => Nat.rec (fun _ _ _ _ => none) (fun _ ih x0 x1 x2 M => b_X12_gathers_393 F (ih) x0 x1 x2 M) n
def b_X12_gathers_295 (F : Nat) (t295 : Nat → Int32 → Int32 → cM → Option (cM)) (t393 : Nat → Int32 → Int32 → cM → Option (cM)) : Nat → Int32 → Int32 → cM → Option (cM) := fun x0 x1 x2 M =>
  (fI M x0 10 50).bind fun v1 =>
  if v1 ≤ x2 then (
  t393 x0 x1 (0 : Int32) M)
  else (
  (fI M x0 10 47).bind fun v2 =>
  (fR M x0 10 53).bind fun v3 =>
  if 0 ≤ x2 - v2 then (
  if (3600 : Int32) ≤ x2 - v2 then (
  dz (6 : Int32) (
  dz (3 : Int32) (
  dz (6 : Int32) (
  (f_X12_atomWeight F (2 : Int32) (0 : Int32) ((((x2 - v2) - (3600 : Int32)) / (6 : Int32)) - (((x2 - v2) - (3600 : Int32)) / (6 : Int32)) / (3 : Int32) * (3 : Int32)) (((x2 - v2) - (3600 : Int32)) - ((x2 - v2) - (3600 : Int32)) / (6 : Int32) * (6 : Int32)) M).bind fun v4 =>
  (sI 0 v4.2 v3 x2 v4.1).bind fun M5 =>
  t295 x0 x1 (x2 + (1 : Int32)) M5))))
  else (
  dz (120 : Int32) (
  dz (4 : Int32) (
  dz (30 : Int32) (
  dz (4 : Int32) (
  (f_X12_atomWeight F (1 : Int32) ((x2 - v2) / (120 : Int32)) (((x2 - v2) / (4 : Int32)) - ((x2 - v2) / (4 : Int32)) / (30 : Int32) * (30 : Int32)) ((x2 - v2) - (x2 - v2) / (4 : Int32) * (4 : Int32)) M).bind fun v6 =>
  (sI 0 v6.2 v3 x2 v6.1).bind fun M7 =>
  t295 x0 x1 (x2 + (1 : Int32)) M7))))))
  else (
  (fR M x0 10 49).bind fun v8 =>
  (aI 0 M v8 x2).bind fun v9 =>
  (f_X12_atomWeight F (0 : Int32) v9 (0 : Int32) (0 : Int32) M).bind fun v10 =>
  (sI 0 v10.2 v3 x2 v10.1).bind fun M11 =>
  t295 x0 x1 (x2 + (1 : Int32)) M11))
def f_X12_gathers_295 (F : Nat) : Nat → Nat → Int32 → Int32 → cM → Option (cM) := fun n => Nat.rec (fun _ _ _ _ => none) (fun _ ih x0 x1 x2 M => b_X12_gathers_295 F (ih) (f_X12_gathers_393 F F) x0 x1 x2 M) n
def b_X12_gathers_238 (F : Nat) (t140 : Nat → Int32 → Int32 → Int32 → cM → Option (cM)) : Nat → Int32 → Int32 → Int32 → Int32 → cM → Option (cM) := fun x0 x1 x2 x3 x5 M =>
  dz (18 : Int32) (
  dz (6 : Int32) (
  dz (3 : Int32) (
  dz (6 : Int32) (
  (f_X12_eachs F x0 ((x5 - (3600 : Int32)) / (18 : Int32)) (((x5 - (3600 : Int32)) / (6 : Int32)) - ((x5 - (3600 : Int32)) / (6 : Int32)) / (3 : Int32) * (3 : Int32)) ((x5 - (3600 : Int32)) - (x5 - (3600 : Int32)) / (6 : Int32) * (6 : Int32)) M).bind fun v1 =>
  (f_X12_matches F x0 x2 x3 v1.1 v1.2).bind fun v2 =>
  t140 x0 x1 x2 (x3 + (1 : Int32)) v2))))
def f_X12_gathers_238 (F : Nat) (k102 : Nat → Int32 → Int32 → cM → Option (cM)) (k140 : Nat → Int32 → Int32 → Int32 → cM → Option (cM)) : Nat → Int32 → Int32 → Int32 → Int32 → cM → Option (cM) := fun x0 x1 x2 x3 x5 M => b_X12_gathers_238 F (k140) x0 x1 x2 x3 x5 M
def b_X12_gathers_215 (F : Nat) (t140 : Nat → Int32 → Int32 → Int32 → cM → Option (cM)) : Nat → Int32 → Int32 → Int32 → Int32 → cM → Option (cM) := fun x0 x1 x2 x3 x5 M =>
  dz (120 : Int32) (
  dz (4 : Int32) (
  dz (30 : Int32) (
  dz (4 : Int32) (
  (f_X12_cuts F x0 (x5 / (120 : Int32)) ((x5 / (4 : Int32)) - (x5 / (4 : Int32)) / (30 : Int32) * (30 : Int32)) (x5 - x5 / (4 : Int32) * (4 : Int32)) M).bind fun v1 =>
  (f_X12_matches F x0 x2 x3 v1.1 v1.2).bind fun v2 =>
  t140 x0 x1 x2 (x3 + (1 : Int32)) v2))))
def f_X12_gathers_215 (F : Nat) (k102 : Nat → Int32 → Int32 → cM → Option (cM)) (k140 : Nat → Int32 → Int32 → Int32 → cM → Option (cM)) : Nat → Int32 → Int32 → Int32 → Int32 → cM → Option (cM) := fun x0 x1 x2 x3 x5 M => b_X12_gathers_215 F (k140) x0 x1 x2 x3 x5 M
def b_X12_gathers_172 (F : Nat) (t140 : Nat → Int32 → Int32 → Int32 → cM → Option (cM)) (t172 : Nat → Int32 → Int32 → Int32 → Int32 → Int32 → cM → Option (cM)) : Nat → Int32 → Int32 → Int32 → Int32 → Int32 → cM → Option (cM) := fun x0 x1 x2 x3 x4 x6 M =>
  (fR M x0 10 49).bind fun v1 =>
  (aI 0 M v1 x3).bind fun v2 =>
  if v2 ≤ x6 then (
  (f_X12_matches F x0 x2 x3 x4 M).bind fun v3 =>
  t140 x0 x1 x2 (x3 + (1 : Int32)) v3)
  else (
  (fR M x0 10 48).bind fun v4 =>
  (aI 0 M v4 (((4 : Int32) * x3) + x6)).bind fun v5 =>
  (f_X12_adds F x0 v5 M).bind fun v6 =>
  t172 x0 x1 x2 x3 x4 (x6 + (1 : Int32)) v6)
def f_X12_gathers_172 (F : Nat) (k102 : Nat → Int32 → Int32 → cM → Option (cM)) (k140 : Nat → Int32 → Int32 → Int32 → cM → Option (cM)) : Nat → Nat → Int32 → Int32 → Int32 → Int32 → Int32 → cM → Option (cM) := fun n => Nat.rec (fun _ _ _ _ _ _ _ => none) (fun _ ih x0 x1 x2 x3 x4 x6 M => b_X12_gathers_172 F (k140) (ih) x0 x1 x2 x3 x4 x6 M) n
def b_X12_gathers_140 (F : Nat) (t102 : Nat → Int32 → Int32 → cM → Option (cM)) (t172 : Nat → Int32 → Int32 → Int32 → Int32 → Int32 → cM → Option (cM)) (t215 : Nat → Int32 → Int32 → Int32 → Int32 → cM → Option (cM)) (t238 : Nat → Int32 → Int32 → Int32 → Int32 → cM → Option (cM)) : Nat → Int32 → Int32 → Int32 → cM → Option (cM) := fun x0 x1 x2 x3 M =>
  (fI M x0 10 50).bind fun v1 =>
  if v1 ≤ x3 then (
  t102 x0 x1 (x2 + (1 : Int32)) M)
  else (
  (pF M x0 10 45 (.int (0 : Int32))).bind fun M2 =>
  (fI M2 x0 10 47).bind fun v3 =>
  if 0 ≤ x3 - v3 then (
  if (3600 : Int32) ≤ x3 - v3 then (
  t238 x0 x1 x2 x3 (x3 - v3) M2)
  else (
  t215 x0 x1 x2 x3 (x3 - v3) M2))
  else (
  t172 x0 x1 x2 x3 (1 : Int32) (0 : Int32) M2))
def f_X12_gathers_140 (F : Nat) (k102 : Nat → Int32 → Int32 → cM → Option (cM)) : Nat → Nat → Int32 → Int32 → Int32 → cM → Option (cM) := fun n => Nat.rec (fun _ _ _ _ _ => none) (fun _ ih x0 x1 x2 x3 M => b_X12_gathers_140 F (k102) (f_X12_gathers_172 F k102 ih F) (f_X12_gathers_215 F k102 ih) (f_X12_gathers_238 F k102 ih) x0 x1 x2 x3 M) n
def b_X12_gathers_102 (F : Nat) (t140 : Nat → Int32 → Int32 → Int32 → cM → Option (cM)) (t295 : Nat → Int32 → Int32 → cM → Option (cM)) : Nat → Int32 → Int32 → cM → Option (cM) := fun x0 x1 x2 M =>
  (fR M x0 10 8).bind fun v1 =>
  (aI 0 M v1 x1).bind fun v2 =>
  if v2 ≤ x2 then (
  t295 x0 x1 (0 : Int32) M)
  else (
  (fR M x0 10 10).bind fun v3 =>
  (fR M x0 10 11).bind fun v4 =>
  (aI 0 M v4 (((4 : Int32) * x1) + x2)).bind fun v5 =>
  (f_X12_takes F x0 v3 ((20 : Int32) * (((4 : Int32) * x1) + x2)) v5 M).bind fun v6 =>
  t140 x0 x1 x2 (0 : Int32) v6)
def f_X12_gathers_102 (F : Nat) : Nat → Nat → Int32 → Int32 → cM → Option (cM) := fun n => Nat.rec (fun _ _ _ _ => none) (fun _ ih x0 x1 x2 M => b_X12_gathers_102 F (f_X12_gathers_140 F ih F) (f_X12_gathers_295 F F) x0 x1 x2 M) n
def b_X12_gathers_38 (F : Nat) (t30 : Nat → Int32 → Int32 → Int32 → cM → Option (cM)) (t38 : Nat → Int32 → Int32 → Int32 → Int32 → cM → Option (cM)) : Nat → Int32 → Int32 → Int32 → Int32 → cM → Option (cM) := fun x0 x1 x2 x3 x4 M =>
  (fR M x0 10 13).bind fun v1 =>
  (aI 0 M v1 x2).bind fun v2 =>
  if v2 < x4 + x3 then (
  t30 x0 x1 x2 (x3 + (1 : Int32)) M)
  else (
  (fR M x0 10 12).bind fun v3 =>
  (f_X12_addsConst F x0 v3 (((20 : Int32) * x2) + x4) x3 M).bind fun v4 =>
  t38 x0 x1 x2 x3 (x4 + (1 : Int32)) v4)
def f_X12_gathers_38 (F : Nat) (k14 : Nat → Int32 → Int32 → cM → Option (cM)) (k30 : Nat → Int32 → Int32 → Int32 → cM → Option (cM)) : Nat → Nat → Int32 → Int32 → Int32 → Int32 → cM → Option (cM) := fun n => Nat.rec (fun _ _ _ _ _ _ => none) (fun _ ih x0 x1 x2 x3 x4 M => b_X12_gathers_38 F (k30) (ih) x0 x1 x2 x3 x4 M) n
def b_X12_gathers_30 (F : Nat) (t14 : Nat → Int32 → Int32 → cM → Option (cM)) (t38 : Nat → Int32 → Int32 → Int32 → Int32 → cM → Option (cM)) : Nat → Int32 → Int32 → Int32 → cM → Option (cM) := fun x0 x1 x2 x3 M =>
  if (4 : Int32) < x3 then (
  t14 x0 x1 (x2 + (1 : Int32)) M)
  else (
  t38 x0 x1 x2 x3 (0 : Int32) M)
def f_X12_gathers_30 (F : Nat) (k14 : Nat → Int32 → Int32 → cM → Option (cM)) : Nat → Nat → Int32 → Int32 → Int32 → cM → Option (cM) := fun n => Nat.rec (fun _ _ _ _ _ => none) (fun _ ih x0 x1 x2 x3 M => b_X12_gathers_30 F (k14) (f_X12_gathers_38 F k14 ih F) x0 x1 x2 x3 M) n
def b_X12_gathers_14 (F : Nat) (t30 : Nat → Int32 → Int32 → Int32 → cM → Option (cM)) (t102 : Nat → Int32 → Int32 → cM → Option (cM)) : Nat → Int32 → Int32 → cM → Option (cM) := fun x0 x1 x2 M =>
  (fR M x0 10 8).bind fun v1 =>
  (aI 0 M v1 x1).bind fun v2 =>
  if ((4 : Int32) * x1) + v2 ≤ x2 then (
  (fI M x0 10 47).bind fun v3 =>
  (pF M x0 10 50 (.int ((v3 + (3600 : Int32)) + (72 : Int32)))).bind fun M4 =>
  t102 x0 x1 (0 : Int32) M4)
  else (
  t30 x0 x1 x2 (1 : Int32) M)
def f_X12_gathers_14 (F : Nat) : Nat → Nat → Int32 → Int32 → cM → Option (cM) := fun n => Nat.rec (fun _ _ _ _ => none) (fun _ ih x0 x1 x2 M => b_X12_gathers_14 F (f_X12_gathers_30 F ih F) (f_X12_gathers_102 F F) x0 x1 x2 M) n
def b_X12_gathers_0 (F : Nat) (t14 : Nat → Int32 → Int32 → cM → Option (cM)) : Nat → Int32 → cM → Option (cM) := fun x0 x1 M =>
  (pF M x0 10 56 (.int x1)).bind fun M1 =>
  (pF M1 x0 10 47 (.int (0 : Int32))).bind fun M2 =>
  t14 x0 x1 ((4 : Int32) * x1) M2
def f_X12_gathers_0 (F : Nat) : Nat → Int32 → cM → Option (cM) := fun x0 x1 M => b_X12_gathers_0 F (f_X12_gathers_14 F F) x0 x1 M
def f_X12_gathers (F : Nat) : Nat → Int32 → cM → Option (cM) := fun a0 a1 M => if isC M a0 10 = true then f_X12_gathers_0 F a0 a1 M else none
-- PatchbayScriptModel.chooses(I)V
def b_X12_chooses_135 (F : Nat) (t122 : Nat → Int32 → cM → Option (cM)) (t135 : Nat → Int32 → Int32 → Int32 → cM → Option (cM)) : Nat → Int32 → Int32 → Int32 → cM → Option (cM) := fun x0 x2 x3 x4 M =>
  (fI M x0 10 57).bind fun v1 =>
  if v1 ≤ x4 then (
  if x3 = 0 then (
  t122 x0 (x2 + (1 : Int32)) M)
  else (
  (fR M x0 10 55).bind fun v2 =>
  (fI M x0 10 54).bind fun v3 =>
  (sI 0 M v2 v3 x2).bind fun M4 =>
  (fI M4 x0 10 54).bind fun v5 =>
  (pF M4 x0 10 54 (.int (v5 + (1 : Int32)))).bind fun M6 =>
  t122 x0 (x2 + (1 : Int32)) M6))
  else (
  if x3 = 0 then (
  t135 x0 x2 (0 : Int32) (x4 + (1 : Int32)) M)
  else (
  (fR M x0 10 51).bind fun v7 =>
  (fR M x0 10 58).bind fun v8 =>
  (aI 0 M v8 x4).bind fun v9 =>
  (aI 0 M v7 (((4000 : Int32) * v9) + x2)).bind fun v10 =>
  if v10 = 0 then (
  t135 x0 x2 (0 : Int32) (x4 + (1 : Int32)) M)
  else (
  t135 x0 x2 (1 : Int32) (x4 + (1 : Int32)) M)))
def f_X12_chooses_135 (F : Nat) (k122 : Nat → Int32 → cM → Option (cM)) : Nat → Nat → Int32 → Int32 → Int32 → cM → Option (cM) := fun n => Nat.rec (fun _ _ _ _ _ => none) (fun _ ih x0 x2 x3 x4 M => b_X12_chooses_135 F (k122) (ih) x0 x2 x3 x4 M) n
def b_X12_chooses_122 (F : Nat) (t135 : Nat → Int32 → Int32 → Int32 → cM → Option (cM)) : Nat → Int32 → cM → Option (cM) := fun x0 x2 M =>
  (fI M x0 10 50).bind fun v1 =>
  if v1 ≤ x2 then (
  some M)
  else (
  t135 x0 x2 (1 : Int32) (0 : Int32) M)
def f_X12_chooses_122 (F : Nat) : Nat → Nat → Int32 → cM → Option (cM) := fun n => Nat.rec (fun _ _ _ => none) (fun _ ih x0 x2 M => b_X12_chooses_122 F (f_X12_chooses_135 F ih F) x0 x2 M) n
def b_X12_chooses_57 (F : Nat) (t12 : Nat → Int32 → Int32 → cM → Option (cM)) : Nat → Int32 → Int32 → cM → Option (cM) := fun x0 x1 x2 M =>
  (fR M x0 10 60).bind fun v1 =>
  (fI M x0 10 57).bind fun v2 =>
  (fR M x0 10 13).bind fun v3 =>
  (fI M x0 10 56).bind fun v4 =>
  (aI 0 M v3 (((4 : Int32) * v4) + x2)).bind fun v5 =>
  (sI 0 M v1 v2 (v5 + (1 : Int32))).bind fun M6 =>
  (fI M6 x0 10 61).bind fun v7 =>
  (fR M6 x0 10 60).bind fun v8 =>
  (fI M6 x0 10 57).bind fun v9 =>
  (aI 0 M6 v8 v9).bind fun v10 =>
  (pF M6 x0 10 61 (.int (v7 * v10))).bind fun M11 =>
  (fI M11 x0 10 57).bind fun v12 =>
  (pF M11 x0 10 57 (.int (v12 + (1 : Int32)))).bind fun M13 =>
  t12 x0 x1 (x2 + (1 : Int32)) M13
def f_X12_chooses_57 (F : Nat) (k12 : Nat → Int32 → Int32 → cM → Option (cM)) : Nat → Int32 → Int32 → cM → Option (cM) := fun x0 x1 x2 M => b_X12_chooses_57 F (k12) x0 x1 x2 M
def b_X12_chooses_12 (F : Nat) (t12 : Nat → Int32 → Int32 → cM → Option (cM)) (t57 : Nat → Int32 → Int32 → cM → Option (cM)) (t122 : Nat → Int32 → cM → Option (cM)) : Nat → Int32 → Int32 → cM → Option (cM) := fun x0 x1 x2 M =>
  (fR M x0 10 8).bind fun v1 =>
  (fI M x0 10 56).bind fun v2 =>
  (aI 0 M v1 v2).bind fun v3 =>
  if v3 ≤ x2 then (
  (pF M x0 10 54 (.int (0 : Int32))).bind fun M4 =>
  t122 x0 (0 : Int32) M4)
  else (
  if (x1 >>> (x2 &&& 31)) &&& (1 : Int32) = (1 : Int32) then (
  (fR M x0 10 58).bind fun v5 =>
  (fI M x0 10 57).bind fun v6 =>
  (sI 0 M v5 v6 x2).bind fun M7 =>
  (fR M7 x0 10 59).bind fun v8 =>
  (fI M7 x0 10 57).bind fun v9 =>
  (fI M7 x0 10 61).bind fun v10 =>
  (sI 0 M7 v8 v9 v10).bind fun M11 =>
  t57 x0 x1 x2 M11)
  else (
  t12 x0 x1 (x2 + (1 : Int32)) M))
def f_X12_chooses_12 (F : Nat) : Nat → Nat → Int32 → Int32 → cM → Option (cM) := fun n => Nat.rec (fun _ _ _ _ => none) (fun _ ih x0 x1 x2 M => b_X12_chooses_12 F (ih) (f_X12_chooses_57 F ih) (f_X12_chooses_122 F F) x0 x1 x2 M) n
def b_X12_chooses_0 (F : Nat) (t12 : Nat → Int32 → Int32 → cM → Option (cM)) : Nat → Int32 → cM → Option (cM) := fun x0 x1 M =>
  (pF M x0 10 57 (.int (0 : Int32))).bind fun M1 =>
  (pF M1 x0 10 61 (.int (1 : Int32))).bind fun M2 =>
  t12 x0 x1 (0 : Int32) M2
def f_X12_chooses_0 (F : Nat) : Nat → Int32 → cM → Option (cM) := fun x0 x1 M => b_X12_chooses_0 F (f_X12_chooses_12 F F) x0 x1 M
def f_X12_chooses (F : Nat) : Nat → Int32 → cM → Option (cM) := fun a0 a1 M => if isC M a0 10 = true then f_X12_chooses_0 F a0 a1 M else none
-- PatchbayScriptModel.isAllowed(II)Z
def b_X12_isAllowed_0 (F : Nat) : Nat → Int32 → Int32 → cM → Option (Int32 × cM) := fun x0 x1 x2 M =>
  (fR M x0 10 67).bind fun v1 =>
  (aI 0 M v1 x2).bind fun v2 =>
  if v2 = (-1 : Int32) then (
  some ((1 : Int32), M))
  else (
  (fR M x0 10 67).bind fun v3 =>
  (aI 0 M v3 x2).bind fun v4 =>
  if v4 = x1 then (
  some ((1 : Int32), M))
  else (
  some ((0 : Int32), M)))
def f_X12_isAllowed_0 (F : Nat) : Nat → Int32 → Int32 → cM → Option (Int32 × cM) := fun x0 x1 x2 M => b_X12_isAllowed_0 F x0 x1 x2 M
def f_X12_isAllowed (F : Nat) : Nat → Int32 → Int32 → cM → Option (Int32 × cM) := fun a0 a1 a2 M => if isC M a0 10 = true then f_X12_isAllowed_0 F a0 a1 a2 M else none
-- PatchbayScriptModel.behind(II)I
def b_X12_behind_55 (F : Nat) (t5 : Nat → Int32 → Int32 → Int32 → Int32 → cM → Option (Int32 × cM)) : Nat → Int32 → Int32 → Int32 → Int32 → Int32 → cM → Option (Int32 × cM) := fun x0 x1 x2 x3 x4 x5 M =>
  (fR M x0 10 52).bind fun v1 =>
  (fR M x0 10 58).bind fun v2 =>
  (aI 0 M v2 x4).bind fun v3 =>
  (aI 0 M v1 (((4000 : Int32) * v3) + x1)).bind fun v4 =>
  (fR M x0 10 59).bind fun v5 =>
  (aI 0 M v5 x4).bind fun v6 =>
  let v7 : Int32 := x3 + ((x5 + v4) * v6)
  t5 x0 x1 x2 v7 (x4 + (1 : Int32)) M
def f_X12_behind_55 (F : Nat) (k5 : Nat → Int32 → Int32 → Int32 → Int32 → cM → Option (Int32 × cM)) : Nat → Int32 → Int32 → Int32 → Int32 → Int32 → cM → Option (Int32 × cM) := fun x0 x1 x2 x3 x4 x5 M => b_X12_behind_55 F (k5) x0 x1 x2 x3 x4 x5 M
def b_X12_behind_5 (F : Nat) (t55 : Nat → Int32 → Int32 → Int32 → Int32 → Int32 → cM → Option (Int32 × cM)) : Nat → Int32 → Int32 → Int32 → Int32 → cM → Option (Int32 × cM) := fun x0 x1 x2 x3 x4 M =>
  (fI M x0 10 57).bind fun v1 =>
  if v1 ≤ x4 then (
  some (x3, M))
  else (
  (fR M x0 10 68).bind fun v2 =>
  (aI 0 M v2 (((4 : Int32) * x2) + x4)).bind fun v3 =>
  (fR M x0 10 51).bind fun v4 =>
  (fR M x0 10 58).bind fun v5 =>
  (aI 0 M v5 x4).bind fun v6 =>
  (aI 0 M v4 (((4000 : Int32) * v6) + x1)).bind fun v7 =>
  if (v7 >>> (v3 &&& 31)) &&& (1 : Int32) = 0 then (
  some ((-1 : Int32), M))
  else (
  t55 x0 x1 x2 x3 x4 v3 M))
def f_X12_behind_5 (F : Nat) : Nat → Nat → Int32 → Int32 → Int32 → Int32 → cM → Option (Int32 × cM) := fun n => Nat.rec (fun _ _ _ _ _ _ => none) (fun _ ih x0 x1 x2 x3 x4 M => b_X12_behind_5 F (f_X12_behind_55 F ih) x0 x1 x2 x3 x4 M) n
def b_X12_behind_0 (F : Nat) (t5 : Nat → Int32 → Int32 → Int32 → Int32 → cM → Option (Int32 × cM)) : Nat → Int32 → Int32 → cM → Option (Int32 × cM) := fun x0 x1 x2 M =>
  t5 x0 x1 x2 (0 : Int32) (0 : Int32) M
def f_X12_behind_0 (F : Nat) : Nat → Int32 → Int32 → cM → Option (Int32 × cM) := fun x0 x1 x2 M => b_X12_behind_0 F (f_X12_behind_5 F F) x0 x1 x2 M
def f_X12_behind (F : Nat) : Nat → Int32 → Int32 → cM → Option (Int32 × cM) := fun a0 a1 a2 M => if isC M a0 10 = true then f_X12_behind_0 F a0 a1 a2 M else none
-- PatchbayScriptModel.ahead(II)I
def b_X12_ahead_52 (F : Nat) (t5 : Nat → Int32 → Int32 → Int32 → Int32 → cM → Option (Int32 × cM)) : Nat → Int32 → Int32 → Int32 → Int32 → Int32 → cM → Option (Int32 × cM) := fun x0 x1 x2 x3 x4 x5 M =>
  if x5 < 0 then (
  some ((-1 : Int32), M))
  else (
  (fR M x0 10 51).bind fun v1 =>
  (fR M x0 10 58).bind fun v2 =>
  (aI 0 M v2 x4).bind fun v3 =>
  (aI 0 M v1 (((4000 : Int32) * v3) + x1)).bind fun v4 =>
  if (v4 >>> (x5 &&& 31)) &&& (1 : Int32) = 0 then (
  some ((-1 : Int32), M))
  else (
  (fR M x0 10 59).bind fun v5 =>
  (aI 0 M v5 x4).bind fun v6 =>
  t5 x0 x1 x2 (x3 + (x5 * v6)) (x4 + (1 : Int32)) M))
def f_X12_ahead_52 (F : Nat) (k5 : Nat → Int32 → Int32 → Int32 → Int32 → cM → Option (Int32 × cM)) : Nat → Int32 → Int32 → Int32 → Int32 → Int32 → cM → Option (Int32 × cM) := fun x0 x1 x2 x3 x4 x5 M => b_X12_ahead_52 F (k5) x0 x1 x2 x3 x4 x5 M
def b_X12_ahead_5 (F : Nat) (t52 : Nat → Int32 → Int32 → Int32 → Int32 → Int32 → cM → Option (Int32 × cM)) : Nat → Int32 → Int32 → Int32 → Int32 → cM → Option (Int32 × cM) := fun x0 x1 x2 x3 x4 M =>
  (fI M x0 10 57).bind fun v1 =>
  if v1 ≤ x4 then (
  some (x3, M))
  else (
  (fR M x0 10 59).bind fun v2 =>
  (aI 0 M v2 x4).bind fun v3 =>
  dz v3 (
  (fR M x0 10 60).bind fun v4 =>
  (aI 0 M v4 x4).bind fun v5 =>
  dz v5 (
  (fR M x0 10 52).bind fun v6 =>
  (fR M x0 10 58).bind fun v7 =>
  (aI 0 M v7 x4).bind fun v8 =>
  (aI 0 M v6 (((4000 : Int32) * v8) + x1)).bind fun v9 =>
  let v10 : Int32 := ((x2 / v3) - (x2 / v3) / v5 * v5) - v9
  t52 x0 x1 x2 x3 x4 v10 M)))
def f_X12_ahead_5 (F : Nat) : Nat → Nat → Int32 → Int32 → Int32 → Int32 → cM → Option (Int32 × cM) := fun n => Nat.rec (fun _ _ _ _ _ _ => none) (fun _ ih x0 x1 x2 x3 x4 M => b_X12_ahead_5 F (f_X12_ahead_52 F ih) x0 x1 x2 x3 x4 M) n
def b_X12_ahead_0 (F : Nat) (t5 : Nat → Int32 → Int32 → Int32 → Int32 → cM → Option (Int32 × cM)) : Nat → Int32 → Int32 → cM → Option (Int32 × cM) := fun x0 x1 x2 M =>
  t5 x0 x1 x2 (0 : Int32) (0 : Int32) M
def f_X12_ahead_0 (F : Nat) : Nat → Int32 → Int32 → cM → Option (Int32 × cM) := fun x0 x1 x2 M => b_X12_ahead_0 F (f_X12_ahead_5 F F) x0 x1 x2 M
def f_X12_ahead (F : Nat) : Nat → Int32 → Int32 → cM → Option (Int32 × cM) := fun a0 a1 a2 M => if isC M a0 10 = true then f_X12_ahead_0 F a0 a1 a2 M else none
-- PatchbayScriptModel.goesTo(II)V
def b_X12_goesTo_2 (F : Nat) (t2 : Nat → Int32 → Int32 → Int32 → cM → Option (cM)) : Nat → Int32 → Int32 → Int32 → cM → Option (cM) := fun x0 x1 x2 x3 M =>
  (fI M x0 10 57).bind fun v1 =>
  if v1 ≤ x3 then (
  some M)
  else (
  (fR M x0 10 68).bind fun v2 =>
  (fR M x0 10 59).bind fun v3 =>
  (aI 0 M v3 x3).bind fun v4 =>
  dz v4 (
  (fR M x0 10 60).bind fun v5 =>
  (aI 0 M v5 x3).bind fun v6 =>
  dz v6 (
  (sI 0 M v2 (((4 : Int32) * x1) + x3) ((x2 / v4) - (x2 / v4) / v6 * v6)).bind fun M7 =>
  t2 x0 x1 x2 (x3 + (1 : Int32)) M7)))
def f_X12_goesTo_2 (F : Nat) : Nat → Nat → Int32 → Int32 → Int32 → cM → Option (cM) := fun n => Nat.rec (fun _ _ _ _ _ => none) (fun _ ih x0 x1 x2 x3 M => b_X12_goesTo_2 F (ih) x0 x1 x2 x3 M) n
def b_X12_goesTo_0 (F : Nat) (t2 : Nat → Int32 → Int32 → Int32 → cM → Option (cM)) : Nat → Int32 → Int32 → cM → Option (cM) := fun x0 x1 x2 M =>
  t2 x0 x1 x2 (0 : Int32) M
def f_X12_goesTo_0 (F : Nat) : Nat → Int32 → Int32 → cM → Option (cM) := fun x0 x1 x2 M => b_X12_goesTo_0 F (f_X12_goesTo_2 F F) x0 x1 x2 M
def f_X12_goesTo (F : Nat) : Nat → Int32 → Int32 → cM → Option (cM) := fun a0 a1 a2 M => if isC M a0 10 = true then f_X12_goesTo_0 F a0 a1 a2 M else none
-- PatchbayScriptModel.threeFrom(II)J
def b_X12_threeFrom_45 (F : Nat) (t5 : Nat → Int32 → Int32 → Int64 → Int32 → cM → Option (Int64 × cM)) : Nat → Int32 → Int32 → Int64 → Int32 → Int32 → cM → Option (Int64 × cM) := fun x0 x1 x2 x3 x5 s0 M =>
  if s0 = (-1 : Int32) then (
  let v1 : Int64 := x3 ||| (0 : Int64)
  t5 x0 x1 x2 v1 (x5 + (1 : Int32)) M)
  else (
  (fR M x0 10 63).bind fun v2 =>
  (aI 0 M v2 s0).bind fun v3 =>
  (fR M x0 10 53).bind fun v4 =>
  (fR M x0 10 55).bind fun v5 =>
  (aI 0 M v5 x5).bind fun v6 =>
  (aI 0 M v4 v6).bind fun v7 =>
  let v8 : Int64 := x3 ||| (v3.toInt64 <<< ((v7 - (4 : Int32)).toInt64 &&& 63))
  t5 x0 x1 x2 v8 (x5 + (1 : Int32)) M)
def f_X12_threeFrom_45 (F : Nat) (k5 : Nat → Int32 → Int32 → Int64 → Int32 → cM → Option (Int64 × cM)) : Nat → Int32 → Int32 → Int64 → Int32 → Int32 → cM → Option (Int64 × cM) := fun x0 x1 x2 x3 x5 s0 M => b_X12_threeFrom_45 F (k5) x0 x1 x2 x3 x5 s0 M
def b_X12_threeFrom_5 (F : Nat) (t45 : Nat → Int32 → Int32 → Int64 → Int32 → Int32 → cM → Option (Int64 × cM)) : Nat → Int32 → Int32 → Int64 → Int32 → cM → Option (Int64 × cM) := fun x0 x1 x2 x3 x5 M =>
  (fI M x0 10 54).bind fun v1 =>
  if v1 ≤ x5 then (
  some (x3, M))
  else (
  (fR M x0 10 55).bind fun v2 =>
  (aI 0 M v2 x5).bind fun v3 =>
  (f_X12_isAllowed F x0 v3 x2 M).bind fun v4 =>
  if v4.1 = 0 then (
  t45 x0 x1 x2 x3 x5 (-1 : Int32) v4.2)
  else (
  (fR v4.2 x0 10 55).bind fun v5 =>
  (aI 0 v4.2 v5 x5).bind fun v6 =>
  (f_X12_behind F x0 v6 x1 v4.2).bind fun v7 =>
  t45 x0 x1 x2 x3 x5 v7.1 v7.2))
def f_X12_threeFrom_5 (F : Nat) : Nat → Nat → Int32 → Int32 → Int64 → Int32 → cM → Option (Int64 × cM) := fun n => Nat.rec (fun _ _ _ _ _ _ => none) (fun _ ih x0 x1 x2 x3 x5 M => b_X12_threeFrom_5 F (f_X12_threeFrom_45 F ih) x0 x1 x2 x3 x5 M) n
def b_X12_threeFrom_0 (F : Nat) (t5 : Nat → Int32 → Int32 → Int64 → Int32 → cM → Option (Int64 × cM)) : Nat → Int32 → Int32 → cM → Option (Int64 × cM) := fun x0 x1 x2 M =>
  t5 x0 x1 x2 (0 : Int64) (0 : Int32) M
def f_X12_threeFrom_0 (F : Nat) : Nat → Int32 → Int32 → cM → Option (Int64 × cM) := fun x0 x1 x2 M => b_X12_threeFrom_0 F (f_X12_threeFrom_5 F F) x0 x1 x2 M
def f_X12_threeFrom (F : Nat) : Nat → Int32 → Int32 → cM → Option (Int64 × cM) := fun a0 a1 a2 M => if isC M a0 10 = true then f_X12_threeFrom_0 F a0 a1 a2 M else none
-- PatchbayScriptModel.can(III)Z
def b_X12_can_0 (F : Nat) : Nat → Int32 → Int32 → Int32 → cM → Option (Int32 × cM) := fun x0 x1 x2 x3 M =>
  if x1 = 0 then (
  (fI M x0 10 61).bind fun v1 =>
  if x2 = v1 - (1 : Int32) then (
  if x3 = 0 then (
  some ((1 : Int32), M))
  else (
  some ((0 : Int32), M)))
  else (
  some ((0 : Int32), M)))
  else (
  if x1 = (1 : Int32) then (
  (f_X12_isIn F x3 (0 : Int32) (31 : Int32) M).bind fun v2 =>
  if v2.1 = 0 then (
  some ((0 : Int32), v2.2))
  else (
  (fR v2.2 x0 10 62).bind fun v3 =>
  (aI 0 v2.2 v3 x2).bind fun v4 =>
  if (v4 >>> (x3 &&& 31)) &&& (1 : Int32) = (1 : Int32) then (
  some ((1 : Int32), v2.2))
  else (
  some ((0 : Int32), v2.2))))
  else (
  if x1 = (2 : Int32) then (
  (f_X12_isIn F x3 (8 : Int32) (39 : Int32) M).bind fun v5 =>
  if v5.1 = 0 then (
  some ((0 : Int32), v5.2))
  else (
  (fR v5.2 x0 10 63).bind fun v6 =>
  (aI 0 v5.2 v6 x2).bind fun v7 =>
  if (v7 >>> ((x3 - (8 : Int32)) &&& 31)) &&& (1 : Int32) = (1 : Int32) then (
  some ((1 : Int32), v5.2))
  else (
  some ((0 : Int32), v5.2))))
  else (
  (fR M x0 10 64).bind fun v8 =>
  (aI 0 M v8 x2).bind fun v9 =>
  if v9 ≤ 0 then (
  some ((0 : Int32), M))
  else (
  (f_X12_isIn F x3 (12 : Int32) (75 : Int32) M).bind fun v10 =>
  if v10.1 = 0 then (
  some ((0 : Int32), v10.2))
  else (
  (fR v10.2 x0 10 66).bind fun v11 =>
  (fR v10.2 x0 10 64).bind fun v12 =>
  (aI 0 v10.2 v12 x2).bind fun v13 =>
  (aJ v10.2 v11 (v13 - (1 : Int32))).bind fun v14 =>
  if lg_cmp ((v14 >>> ((x3 - (12 : Int32)).toInt64 &&& 63)) &&& (1 : Int64)) (1 : Int64) = 0 then (
  some ((1 : Int32), v10.2))
  else (
  some ((0 : Int32), v10.2)))))))
def f_X12_can_0 (F : Nat) : Nat → Int32 → Int32 → Int32 → cM → Option (Int32 × cM) := fun x0 x1 x2 x3 M => b_X12_can_0 F x0 x1 x2 x3 M
def f_X12_can (F : Nat) : Nat → Int32 → Int32 → Int32 → cM → Option (Int32 × cM) := fun a0 a1 a2 a3 M => if isC M a0 10 = true then f_X12_can_0 F a0 a1 a2 a3 M else none
-- PatchbayScriptModel.fours()J
def b_X12_fours_102 (F : Nat) (t4 : Nat → Int64 → Int32 → cM → Option (Int64 × cM)) : Nat → Int64 → Int32 → Int32 → cM → Option (Int64 × cM) := fun x0 x1 x3 x4 M =>
  (fR M x0 10 66).bind fun v1 =>
  (fR M x0 10 64).bind fun v2 =>
  (aI 0 M v2 x4).bind fun v3 =>
  (aJ M v1 (v3 - (1 : Int32))).bind fun v4 =>
  (fR M x0 10 53).bind fun v5 =>
  (fR M x0 10 55).bind fun v6 =>
  (aI 0 M v6 x3).bind fun v7 =>
  (aI 0 M v5 v7).bind fun v8 =>
  let v9 : Int64 := x1 ||| (v4 <<< ((v8 - (4 : Int32)).toInt64 &&& 63))
  t4 x0 v9 (x3 + (1 : Int32)) M
def f_X12_fours_102 (F : Nat) (k4 : Nat → Int64 → Int32 → cM → Option (Int64 × cM)) : Nat → Int64 → Int32 → Int32 → cM → Option (Int64 × cM) := fun x0 x1 x3 x4 M => b_X12_fours_102 F (k4) x0 x1 x3 x4 M
def b_X12_fours_41 (F : Nat) (t4 : Nat → Int64 → Int32 → cM → Option (Int64 × cM)) (t102 : Nat → Int64 → Int32 → Int32 → cM → Option (Int64 × cM)) : Nat → Int64 → Int32 → Int32 → cM → Option (Int64 × cM) := fun x0 x1 x3 s0 M =>
  if s0 = (-1 : Int32) then (
  t4 x0 x1 (x3 + (1 : Int32)) M)
  else (
  (fR M x0 10 64).bind fun v1 =>
  (aI 0 M v1 s0).bind fun v2 =>
  if v2 = 0 then (
  (f_X12_goesTo F x0 (1 : Int32) s0 M).bind fun v3 =>
  (fR v3 x0 10 66).bind fun v4 =>
  (fI v3 x0 10 65).bind fun v5 =>
  (f_X12_threeFrom F x0 (1 : Int32) (1 : Int32) v3).bind fun v6 =>
  (sJ v6.2 v4 v5 v6.1).bind fun M7 =>
  (fI M7 x0 10 65).bind fun v8 =>
  (pF M7 x0 10 65 (.int (v8 + (1 : Int32)))).bind fun M9 =>
  (fR M9 x0 10 64).bind fun v10 =>
  (fI M9 x0 10 65).bind fun v11 =>
  (sI 0 M9 v10 s0 v11).bind fun M12 =>
  t102 x0 x1 x3 s0 M12)
  else (
  t102 x0 x1 x3 s0 M))
def f_X12_fours_41 (F : Nat) (k4 : Nat → Int64 → Int32 → cM → Option (Int64 × cM)) : Nat → Int64 → Int32 → Int32 → cM → Option (Int64 × cM) := fun x0 x1 x3 s0 M => b_X12_fours_41 F (k4) (f_X12_fours_102 F k4) x0 x1 x3 s0 M
def b_X12_fours_4 (F : Nat) (t41 : Nat → Int64 → Int32 → Int32 → cM → Option (Int64 × cM)) : Nat → Int64 → Int32 → cM → Option (Int64 × cM) := fun x0 x1 x3 M =>
  (fI M x0 10 54).bind fun v1 =>
  if v1 ≤ x3 then (
  some (x1, M))
  else (
  (fR M x0 10 55).bind fun v2 =>
  (aI 0 M v2 x3).bind fun v3 =>
  (f_X12_isAllowed F x0 v3 (0 : Int32) M).bind fun v4 =>
  if v4.1 = 0 then (
  t41 x0 x1 x3 (-1 : Int32) v4.2)
  else (
  (fR v4.2 x0 10 55).bind fun v5 =>
  (aI 0 v4.2 v5 x3).bind fun v6 =>
  (f_X12_behind F x0 v6 (0 : Int32) v4.2).bind fun v7 =>
  t41 x0 x1 x3 v7.1 v7.2))
def f_X12_fours_4 (F : Nat) : Nat → Nat → Int64 → Int32 → cM → Option (Int64 × cM) := fun n => Nat.rec (fun _ _ _ _ => none) (fun _ ih x0 x1 x3 M => b_X12_fours_4 F (f_X12_fours_41 F ih) x0 x1 x3 M) n
def b_X12_fours_0 (F : Nat) (t4 : Nat → Int64 → Int32 → cM → Option (Int64 × cM)) : Nat → cM → Option (Int64 × cM) := fun x0 M =>
  t4 x0 (0 : Int64) (0 : Int32) M
def f_X12_fours_0 (F : Nat) : Nat → cM → Option (Int64 × cM) := fun x0 M => b_X12_fours_0 F (f_X12_fours_4 F F) x0 M
def f_X12_fours (F : Nat) : Nat → cM → Option (Int64 × cM) := fun a0 M => if isC M a0 10 = true then f_X12_fours_0 F a0 M else none
-- PatchbayScriptModel.goes(II)V
def b_X12_goes_190 (F : Nat) (t16 : Nat → Int32 → Int32 → Int32 → cM → Option (cM)) (t190 : Nat → Int32 → Int32 → Int32 → Int32 → cM → Option (cM)) : Nat → Int32 → Int32 → Int32 → Int32 → cM → Option (cM) := fun x0 x1 x2 x3 x6 M =>
  if x1 ≤ x6 then (
  (fR M x0 10 72).bind fun v1 =>
  (fR M x0 10 71).bind fun v2 =>
  (aI 0 M v2 x1).bind fun v3 =>
  (sI 0 M v1 (((5 : Int32) * x1) + v3) x2).bind fun M4 =>
  (fR M4 x0 10 71).bind fun v5 =>
  (aI 0 M4 v5 x1).bind fun v6 =>
  (sI 0 M4 v5 x1 (v6 + (1 : Int32))).bind fun M7 =>
  t16 x0 x1 x2 x3 M7)
  else (
  (fR M x0 10 73).bind fun v8 =>
  (fR M x0 10 71).bind fun v9 =>
  (aI 0 M v9 x1).bind fun v10 =>
  (fR M x0 10 55).bind fun v11 =>
  (fR M x0 10 69).bind fun v12 =>
  (aI 0 M v12 x6).bind fun v13 =>
  (aI 0 M v11 v13).bind fun v14 =>
  (sI 0 M v8 (((4 : Int32) * (((5 : Int32) * x1) + v10)) + x6) v14).bind fun M15 =>
  t190 x0 x1 x2 x3 (x6 + (1 : Int32)) M15)
def f_X12_goes_190 (F : Nat) (k16 : Nat → Int32 → Int32 → Int32 → cM → Option (cM)) : Nat → Nat → Int32 → Int32 → Int32 → Int32 → cM → Option (cM) := fun n => Nat.rec (fun _ _ _ _ _ _ => none) (fun _ ih x0 x1 x2 x3 x6 M => b_X12_goes_190 F (k16) (ih) x0 x1 x2 x3 x6 M) n
def b_X12_goes_272 (F : Nat) (t16 : Nat → Int32 → Int32 → Int32 → cM → Option (cM)) : Nat → Int32 → Int32 → Int32 → Int32 → cM → Option (cM) := fun x0 x1 x2 x3 x4 M =>
  (fR M x0 10 70).bind fun v1 =>
  (fR M x0 10 70).bind fun v2 =>
  (aI 0 M v2 x3).bind fun v3 =>
  (fR M x0 10 53).bind fun v4 =>
  (fR M x0 10 55).bind fun v5 =>
  (aI 0 M v5 x4).bind fun v6 =>
  (aI 0 M v4 v6).bind fun v7 =>
  (sI 0 M v1 (x3 + (1 : Int32)) (v3 - v7)).bind fun M8 =>
  (fR M8 x0 10 69).bind fun v9 =>
  (sI 0 M8 v9 (x3 + (1 : Int32)) (-1 : Int32)).bind fun M10 =>
  t16 x0 x1 x2 (x3 + (1 : Int32)) M10
def f_X12_goes_272 (F : Nat) (k16 : Nat → Int32 → Int32 → Int32 → cM → Option (cM)) : Nat → Int32 → Int32 → Int32 → Int32 → cM → Option (cM) := fun x0 x1 x2 x3 x4 M => b_X12_goes_272 F (k16) x0 x1 x2 x3 x4 M
def b_X12_goes_160 (F : Nat) (t16 : Nat → Int32 → Int32 → Int32 → cM → Option (cM)) (t190 : Nat → Int32 → Int32 → Int32 → Int32 → cM → Option (cM)) (t272 : Nat → Int32 → Int32 → Int32 → Int32 → cM → Option (cM)) : Nat → Int32 → Int32 → Int32 → Int32 → Int32 → cM → Option (cM) := fun x0 x1 x2 x3 x4 x5 M =>
  (fR M x0 10 69).bind fun v1 =>
  (sI 0 M v1 x3 x4).bind fun M2 =>
  if x5 = (-1 : Int32) then (
  t16 x0 x1 x2 (x3 + (-1 : Int32)) M2)
  else (
  if x3 = x1 - (1 : Int32) then (
  t190 x0 x1 x2 x3 (0 : Int32) M2)
  else (
  (f_X12_goesTo F x0 (x3 + (1 : Int32)) x5 M2).bind fun v3 =>
  t272 x0 x1 x2 x3 x4 v3))
def f_X12_goes_160 (F : Nat) (k16 : Nat → Int32 → Int32 → Int32 → cM → Option (cM)) : Nat → Int32 → Int32 → Int32 → Int32 → Int32 → cM → Option (cM) := fun x0 x1 x2 x3 x4 x5 M => b_X12_goes_160 F (k16) (f_X12_goes_190 F k16 F) (f_X12_goes_272 F k16) x0 x1 x2 x3 x4 x5 M
def b_X12_goes_139 (F : Nat) (t43 : Nat → Int32 → Int32 → Int32 → Int32 → Int32 → cM → Option (cM)) : Nat → Int32 → Int32 → Int32 → Int32 → Int32 → cM → Option (cM) := fun x0 x1 x2 x3 x4 s0 M =>
  if s0 = (-1 : Int32) then (
  t43 x0 x1 x2 x3 (x4 + (1 : Int32)) s0 M)
  else (
  t43 x0 x1 x2 x3 (x4 + (0 : Int32)) s0 M)
def f_X12_goes_139 (F : Nat) (k16 : Nat → Int32 → Int32 → Int32 → cM → Option (cM)) (k43 : Nat → Int32 → Int32 → Int32 → Int32 → Int32 → cM → Option (cM)) : Nat → Int32 → Int32 → Int32 → Int32 → Int32 → cM → Option (cM) := fun x0 x1 x2 x3 x4 s0 M => b_X12_goes_139 F (k43) x0 x1 x2 x3 x4 s0 M
def b_X12_goes_109 (F : Nat) (t139 : Nat → Int32 → Int32 → Int32 → Int32 → Int32 → cM → Option (cM)) : Nat → Int32 → Int32 → Int32 → Int32 → Int32 → Int32 → cM → Option (cM) := fun x0 x1 x2 x3 x4 x7 s0 M =>
  if s0 = (-1 : Int32) then (
  t139 x0 x1 x2 x3 x4 (-1 : Int32) M)
  else (
  (f_X12_can F x0 ((x1 - x3) - (1 : Int32)) s0 x7 M).bind fun v1 =>
  if v1.1 = 0 then (
  t139 x0 x1 x2 x3 x4 (-1 : Int32) v1.2)
  else (
  t139 x0 x1 x2 x3 x4 s0 v1.2))
def f_X12_goes_109 (F : Nat) (k16 : Nat → Int32 → Int32 → Int32 → cM → Option (cM)) (k43 : Nat → Int32 → Int32 → Int32 → Int32 → Int32 → cM → Option (cM)) : Nat → Int32 → Int32 → Int32 → Int32 → Int32 → Int32 → cM → Option (cM) := fun x0 x1 x2 x3 x4 x7 s0 M => b_X12_goes_109 F (f_X12_goes_139 F k16 k43) x0 x1 x2 x3 x4 x7 s0 M
def b_X12_goes_43 (F : Nat) (t109 : Nat → Int32 → Int32 → Int32 → Int32 → Int32 → Int32 → cM → Option (cM)) (t160 : Nat → Int32 → Int32 → Int32 → Int32 → Int32 → cM → Option (cM)) : Nat → Int32 → Int32 → Int32 → Int32 → Int32 → cM → Option (cM) := fun x0 x1 x2 x3 x4 x5 M =>
  (fI M x0 10 54).bind fun v1 =>
  if v1 ≤ x4 then (
  t160 x0 x1 x2 x3 x4 x5 M)
  else (
  if x5 = (-1 : Int32) then (
  (fR M x0 10 55).bind fun v2 =>
  (aI 0 M v2 x4).bind fun v3 =>
  (fR M x0 10 70).bind fun v4 =>
  (aI 0 M v4 x3).bind fun v5 =>
  (fR M x0 10 53).bind fun v6 =>
  (aI 0 M v6 v3).bind fun v7 =>
  if v5 - v7 < 0 then (
  t109 x0 x1 x2 x3 x4 (v5 - v7) (-1 : Int32) M)
  else (
  (f_X12_isAllowed F x0 v3 x3 M).bind fun v8 =>
  if v8.1 = 0 then (
  t109 x0 x1 x2 x3 x4 (v5 - v7) (-1 : Int32) v8.2)
  else (
  (f_X12_behind F x0 v3 x3 v8.2).bind fun v9 =>
  t109 x0 x1 x2 x3 x4 (v5 - v7) v9.1 v9.2)))
  else (
  t160 x0 x1 x2 x3 x4 x5 M))
def f_X12_goes_43 (F : Nat) (k16 : Nat → Int32 → Int32 → Int32 → cM → Option (cM)) : Nat → Nat → Int32 → Int32 → Int32 → Int32 → Int32 → cM → Option (cM) := fun n => Nat.rec (fun _ _ _ _ _ _ _ => none) (fun _ ih x0 x1 x2 x3 x4 x5 M => b_X12_goes_43 F (f_X12_goes_109 F k16 ih) (f_X12_goes_160 F k16) x0 x1 x2 x3 x4 x5 M) n
def b_X12_goes_16 (F : Nat) (t43 : Nat → Int32 → Int32 → Int32 → Int32 → Int32 → cM → Option (cM)) : Nat → Int32 → Int32 → Int32 → cM → Option (cM) := fun x0 x1 x2 x3 M =>
  if x3 < 0 then (
  some M)
  else (
  (fR M x0 10 71).bind fun v1 =>
  (aI 0 M v1 x1).bind fun v2 =>
  if (5 : Int32) ≤ v2 then (
  some M)
  else (
  (fR M x0 10 69).bind fun v3 =>
  (aI 0 M v3 x3).bind fun v4 =>
  t43 x0 x1 x2 x3 (v4 + (1 : Int32)) (-1 : Int32) M))
def f_X12_goes_16 (F : Nat) : Nat → Nat → Int32 → Int32 → Int32 → cM → Option (cM) := fun n => Nat.rec (fun _ _ _ _ _ => none) (fun _ ih x0 x1 x2 x3 M => b_X12_goes_16 F (f_X12_goes_43 F ih F) x0 x1 x2 x3 M) n
def b_X12_goes_0 (F : Nat) (t16 : Nat → Int32 → Int32 → Int32 → cM → Option (cM)) : Nat → Int32 → Int32 → cM → Option (cM) := fun x0 x1 x2 M =>
  (fR M x0 10 69).bind fun v1 =>
  (sI 0 M v1 (0 : Int32) (-1 : Int32)).bind fun M2 =>
  (fR M2 x0 10 70).bind fun v3 =>
  (sI 0 M2 v3 (0 : Int32) x2).bind fun M4 =>
  t16 x0 x1 x2 (0 : Int32) M4
def f_X12_goes_0 (F : Nat) : Nat → Int32 → Int32 → cM → Option (cM) := fun x0 x1 x2 M => b_X12_goes_0 F (f_X12_goes_16 F F) x0 x1 x2 M
def f_X12_goes (F : Nat) : Nat → Int32 → Int32 → cM → Option (cM) := fun a0 a1 a2 M => if isC M a0 10 = true then f_X12_goes_0 F a0 a1 a2 M else none
-- PatchbayScriptModel.finds(I)V
def b_X12_finds_368 (F : Nat) (t333 : Nat → Int32 → Int64 → Int32 → cM → Option (cM)) : Nat → Int32 → Int64 → Int32 → Int32 → cM → Option (cM) := fun x0 x1 x3 x5 s0 M =>
  if (3 : Int32) ≤ x1 then (
  if s0 < 0 then (
  t333 x0 x1 x3 (x5 + (1 : Int32)) M)
  else (
  if lg_cmp ((x3 >>> (s0.toInt64 &&& 63)) &&& (1 : Int64)) (1 : Int64) = 0 then (
  (f_X12_goes F x0 x1 x5 M).bind fun v1 =>
  t333 x0 x1 x3 (x5 + (1 : Int32)) v1)
  else (
  t333 x0 x1 x3 (x5 + (1 : Int32)) M)))
  else (
  (f_X12_can F x0 x1 (0 : Int32) x5 M).bind fun v2 =>
  if v2.1 = 0 then (
  t333 x0 x1 x3 (x5 + (1 : Int32)) v2.2)
  else (
  (f_X12_goes F x0 x1 x5 v2.2).bind fun v3 =>
  t333 x0 x1 x3 (x5 + (1 : Int32)) v3))
def f_X12_finds_368 (F : Nat) (k333 : Nat → Int32 → Int64 → Int32 → cM → Option (cM)) : Nat → Int32 → Int64 → Int32 → Int32 → cM → Option (cM) := fun x0 x1 x3 x5 s0 M => b_X12_finds_368 F (k333) x0 x1 x3 x5 s0 M
def b_X12_finds_333 (F : Nat) (t368 : Nat → Int32 → Int64 → Int32 → Int32 → cM → Option (cM)) : Nat → Int32 → Int64 → Int32 → cM → Option (cM) := fun x0 x1 x3 x5 M =>
  if (64 : Int32) < x5 then (
  some M)
  else (
  (fR M x0 10 71).bind fun v1 =>
  (aI 0 M v1 x1).bind fun v2 =>
  if (5 : Int32) ≤ v2 then (
  some M)
  else (
  if x1 = (3 : Int32) then (
  t368 x0 x1 x3 x5 (x5 - (12 : Int32)) M)
  else (
  t368 x0 x1 x3 x5 (x5 - (16 : Int32)) M)))
def f_X12_finds_333 (F : Nat) : Nat → Nat → Int32 → Int64 → Int32 → cM → Option (cM) := fun n => Nat.rec (fun _ _ _ _ _ => none) (fun _ ih x0 x1 x3 x5 M => b_X12_finds_333 F (f_X12_finds_368 F ih) x0 x1 x3 x5 M) n
def b_X12_finds_296 (F : Nat) (t333 : Nat → Int32 → Int64 → Int32 → cM → Option (cM)) : Nat → Int32 → cM → Option (cM) := fun x0 x1 M =>
  (f_X12_goesTo F x0 (0 : Int32) (0 : Int32) M).bind fun v1 =>
  if x1 = (3 : Int32) then (
  (f_X12_threeFrom F x0 (0 : Int32) (0 : Int32) v1).bind fun v2 =>
  t333 x0 x1 v2.1 (4 : Int32) v2.2)
  else (
  if x1 = (4 : Int32) then (
  (f_X12_fours F x0 v1).bind fun v3 =>
  t333 x0 x1 v3.1 (4 : Int32) v3.2)
  else (
  t333 x0 x1 (0 : Int64) (4 : Int32) v1))
def f_X12_finds_296 (F : Nat) : Nat → Int32 → cM → Option (cM) := fun x0 x1 M => b_X12_finds_296 F (f_X12_finds_333 F F) x0 x1 M
def b_X12_finds_242 (F : Nat) (t191 : Nat → Int32 → Int32 → Int32 → cM → Option (cM)) : Nat → Int32 → Int32 → Int32 → Int32 → cM → Option (cM) := fun x0 x1 x3 x4 s0 M =>
  if s0 = (-1 : Int32) then (
  t191 x0 x1 x3 (x4 + (1 : Int32)) M)
  else (
  (fR M x0 10 63).bind fun v1 =>
  (aI 0 M v1 s0).bind fun v2 =>
  (fR M x0 10 62).bind fun v3 =>
  (aI 0 M v3 x3).bind fun v4 =>
  (fR M x0 10 53).bind fun v5 =>
  (fR M x0 10 55).bind fun v6 =>
  (aI 0 M v6 x4).bind fun v7 =>
  (aI 0 M v5 v7).bind fun v8 =>
  (sI 0 M v1 s0 (v2 ||| ((v4.toInt64 <<< (v8.toInt64 &&& 63)) >>> ((8 : Int32).toInt64 &&& 63)).toInt32)).bind fun M9 =>
  t191 x0 x1 x3 (x4 + (1 : Int32)) M9)
def f_X12_finds_242 (F : Nat) (k175 : Nat → Int32 → Int32 → cM → Option (cM)) (k191 : Nat → Int32 → Int32 → Int32 → cM → Option (cM)) : Nat → Int32 → Int32 → Int32 → Int32 → cM → Option (cM) := fun x0 x1 x3 x4 s0 M => b_X12_finds_242 F (k191) x0 x1 x3 x4 s0 M
def b_X12_finds_191 (F : Nat) (t175 : Nat → Int32 → Int32 → cM → Option (cM)) (t242 : Nat → Int32 → Int32 → Int32 → Int32 → cM → Option (cM)) : Nat → Int32 → Int32 → Int32 → cM → Option (cM) := fun x0 x1 x3 x4 M =>
  (fI M x0 10 54).bind fun v1 =>
  if v1 ≤ x4 then (
  t175 x0 x1 (x3 + (1 : Int32)) M)
  else (
  (fR M x0 10 62).bind fun v2 =>
  (aI 0 M v2 x3).bind fun v3 =>
  if v3 = 0 then (
  t175 x0 x1 (x3 + (1 : Int32)) M)
  else (
  (fR M x0 10 55).bind fun v4 =>
  (aI 0 M v4 x4).bind fun v5 =>
  (f_X12_isAllowed F x0 v5 (x1 - (2 : Int32)) M).bind fun v6 =>
  if v6.1 = 0 then (
  t242 x0 x1 x3 x4 (-1 : Int32) v6.2)
  else (
  (fR v6.2 x0 10 55).bind fun v7 =>
  (aI 0 v6.2 v7 x4).bind fun v8 =>
  (f_X12_ahead F x0 v8 x3 v6.2).bind fun v9 =>
  t242 x0 x1 x3 x4 v9.1 v9.2)))
def f_X12_finds_191 (F : Nat) (k175 : Nat → Int32 → Int32 → cM → Option (cM)) : Nat → Nat → Int32 → Int32 → Int32 → cM → Option (cM) := fun n => Nat.rec (fun _ _ _ _ _ => none) (fun _ ih x0 x1 x3 x4 M => b_X12_finds_191 F (k175) (f_X12_finds_242 F k175 ih) x0 x1 x3 x4 M) n
def b_X12_finds_175 (F : Nat) (t191 : Nat → Int32 → Int32 → Int32 → cM → Option (cM)) (t296 : Nat → Int32 → cM → Option (cM)) : Nat → Int32 → Int32 → cM → Option (cM) := fun x0 x1 x3 M =>
  (fI M x0 10 61).bind fun v1 =>
  if v1 ≤ x3 then (
  t296 x0 x1 M)
  else (
  if x1 ≤ (1 : Int32) then (
  t296 x0 x1 M)
  else (
  t191 x0 x1 x3 (0 : Int32) M))
def f_X12_finds_175 (F : Nat) : Nat → Nat → Int32 → Int32 → cM → Option (cM) := fun n => Nat.rec (fun _ _ _ _ => none) (fun _ ih x0 x1 x3 M => b_X12_finds_175 F (f_X12_finds_191 F ih F) (f_X12_finds_296 F) x0 x1 x3 M) n
def b_X12_finds_136 (F : Nat) (t92 : Nat → Int32 → Int32 → cM → Option (cM)) : Nat → Int32 → Int32 → Int32 → cM → Option (cM) := fun x0 x1 x3 s0 M =>
  if s0 = (-1 : Int32) then (
  t92 x0 x1 (x3 + (1 : Int32)) M)
  else (
  (fR M x0 10 62).bind fun v1 =>
  (aI 0 M v1 s0).bind fun v2 =>
  (fR M x0 10 53).bind fun v3 =>
  (fR M x0 10 55).bind fun v4 =>
  (aI 0 M v4 x3).bind fun v5 =>
  (aI 0 M v3 v5).bind fun v6 =>
  (sI 0 M v1 s0 (v2 ||| ((1 : Int32) <<< (v6 &&& 31)))).bind fun M7 =>
  t92 x0 x1 (x3 + (1 : Int32)) M7)
def f_X12_finds_136 (F : Nat) (k92 : Nat → Int32 → Int32 → cM → Option (cM)) : Nat → Int32 → Int32 → Int32 → cM → Option (cM) := fun x0 x1 x3 s0 M => b_X12_finds_136 F (k92) x0 x1 x3 s0 M
def b_X12_finds_92 (F : Nat) (t136 : Nat → Int32 → Int32 → Int32 → cM → Option (cM)) (t175 : Nat → Int32 → Int32 → cM → Option (cM)) : Nat → Int32 → Int32 → cM → Option (cM) := fun x0 x1 x3 M =>
  (fI M x0 10 54).bind fun v1 =>
  if v1 ≤ x3 then (
  t175 x0 x1 (0 : Int32) M)
  else (
  (fR M x0 10 55).bind fun v2 =>
  (aI 0 M v2 x3).bind fun v3 =>
  (f_X12_isAllowed F x0 v3 (x1 - (1 : Int32)) M).bind fun v4 =>
  if v4.1 = 0 then (
  t136 x0 x1 x3 (-1 : Int32) v4.2)
  else (
  (fR v4.2 x0 10 55).bind fun v5 =>
  (aI 0 v4.2 v5 x3).bind fun v6 =>
  (fI v4.2 x0 10 61).bind fun v7 =>
  (f_X12_ahead F x0 v6 (v7 - (1 : Int32)) v4.2).bind fun v8 =>
  t136 x0 x1 x3 v8.1 v8.2))
def f_X12_finds_92 (F : Nat) : Nat → Nat → Int32 → Int32 → cM → Option (cM) := fun n => Nat.rec (fun _ _ _ _ => none) (fun _ ih x0 x1 x3 M => b_X12_finds_92 F (f_X12_finds_136 F ih) (f_X12_finds_175 F F) x0 x1 x3 M) n
def b_X12_finds_50 (F : Nat) (t50 : Nat → Int32 → Int32 → cM → Option (cM)) (t92 : Nat → Int32 → Int32 → cM → Option (cM)) : Nat → Int32 → Int32 → cM → Option (cM) := fun x0 x1 x3 M =>
  (fI M x0 10 61).bind fun v1 =>
  if v1 ≤ x3 then (
  (pF M x0 10 65 (.int (0 : Int32))).bind fun M2 =>
  t92 x0 x1 (0 : Int32) M2)
  else (
  (fR M x0 10 62).bind fun v3 =>
  (sI 0 M v3 x3 (0 : Int32)).bind fun M4 =>
  (fR M4 x0 10 63).bind fun v5 =>
  (sI 0 M4 v5 x3 (0 : Int32)).bind fun M6 =>
  (fR M6 x0 10 64).bind fun v7 =>
  (sI 0 M6 v7 x3 (0 : Int32)).bind fun M8 =>
  t50 x0 x1 (x3 + (1 : Int32)) M8)
def f_X12_finds_50 (F : Nat) : Nat → Nat → Int32 → Int32 → cM → Option (cM) := fun n => Nat.rec (fun _ _ _ _ => none) (fun _ ih x0 x1 x3 M => b_X12_finds_50 F (ih) (f_X12_finds_92 F F) x0 x1 x3 M) n
def b_X12_finds_11 (F : Nat) (t11 : Nat → Int32 → Int32 → Int32 → cM → Option (cM)) (t50 : Nat → Int32 → Int32 → cM → Option (cM)) : Nat → Int32 → Int32 → Int32 → cM → Option (cM) := fun x0 x1 x2 x3 M =>
  if x1 ≤ x3 then (
  if x2 = 0 then (
  some M)
  else (
  t50 x0 x1 (0 : Int32) M))
  else (
  if x2 = 0 then (
  t11 x0 x1 (0 : Int32) (x3 + (1 : Int32)) M)
  else (
  (fR M x0 10 67).bind fun v1 =>
  (aI 0 M v1 x3).bind fun v2 =>
  if v2 = (-2 : Int32) then (
  t11 x0 x1 (0 : Int32) (x3 + (1 : Int32)) M)
  else (
  t11 x0 x1 (1 : Int32) (x3 + (1 : Int32)) M)))
def f_X12_finds_11 (F : Nat) : Nat → Nat → Int32 → Int32 → Int32 → cM → Option (cM) := fun n => Nat.rec (fun _ _ _ _ _ => none) (fun _ ih x0 x1 x2 x3 M => b_X12_finds_11 F (ih) (f_X12_finds_50 F F) x0 x1 x2 x3 M) n
def b_X12_finds_0 (F : Nat) (t11 : Nat → Int32 → Int32 → Int32 → cM → Option (cM)) : Nat → Int32 → cM → Option (cM) := fun x0 x1 M =>
  (fR M x0 10 71).bind fun v1 =>
  (sI 0 M v1 x1 (0 : Int32)).bind fun M2 =>
  t11 x0 x1 (1 : Int32) (0 : Int32) M2
def f_X12_finds_0 (F : Nat) : Nat → Int32 → cM → Option (cM) := fun x0 x1 M => b_X12_finds_0 F (f_X12_finds_11 F F) x0 x1 M
def f_X12_finds (F : Nat) : Nat → Int32 → cM → Option (cM) := fun a0 a1 M => if isC M a0 10 = true then f_X12_finds_0 F a0 a1 M else none
-- PatchbayScriptModel.lays(III)V
def b_X12_lays_222 (F : Nat) (t22 : Nat → Int32 → Int32 → Int32 → Int32 → cM → Option (cM)) (t222 : Nat → Int32 → Int32 → Int32 → Int32 → Int32 → Int32 → Int32 → Int32 → cM → Option (cM)) : Nat → Int32 → Int32 → Int32 → Int32 → Int32 → Int32 → Int32 → Int32 → cM → Option (cM) := fun x0 x1 x2 x3 x4 x5 x6 x7 x8 M =>
  if 0 ≤ x7 then (
  t22 x0 x1 x2 x3 (x4 + (1 : Int32)) M)
  else (
  (fR M x0 10 49).bind fun v1 =>
  (aI 0 M v1 x6).bind fun v2 =>
  if v2 ≤ x8 then (
  t22 x0 x1 x2 x3 (x4 + (1 : Int32)) M)
  else (
  (fR M x0 10 37).bind fun v3 =>
  (fR M x0 10 48).bind fun v4 =>
  (aI 0 M v4 (((4 : Int32) * x6) + x8)).bind fun v5 =>
  (sI 0 M v3 (((4 : Int32) * x5) + x8) v5).bind fun M6 =>
  t222 x0 x1 x2 x3 x4 x5 x6 x7 (x8 + (1 : Int32)) M6))
def f_X12_lays_222 (F : Nat) (k22 : Nat → Int32 → Int32 → Int32 → Int32 → cM → Option (cM)) : Nat → Nat → Int32 → Int32 → Int32 → Int32 → Int32 → Int32 → Int32 → Int32 → cM → Option (cM) := fun n => Nat.rec (fun _ _ _ _ _ _ _ _ _ _ => none) (fun _ ih x0 x1 x2 x3 x4 x5 x6 x7 x8 M => b_X12_lays_222 F (k22) (ih) x0 x1 x2 x3 x4 x5 x6 x7 x8 M) n
def b_X12_lays_178 (F : Nat) (t222 : Nat → Int32 → Int32 → Int32 → Int32 → Int32 → Int32 → Int32 → Int32 → cM → Option (cM)) : Nat → Int32 → Int32 → Int32 → Int32 → Int32 → Int32 → Int32 → Nat → Int32 → Int32 → cM → Option (cM) := fun x0 x1 x2 x3 x4 x5 x6 x7 s0 s1 s2 M =>
  (sI 0 M s0 s1 s2).bind fun M1 =>
  (fR M1 x0 10 36).bind fun v2 =>
  if 0 ≤ x7 then (
  if (3600 : Int32) ≤ x7 then (
  dz (6 : Int32) (
  (sI 0 M1 v2 x5 ((x7 - (3600 : Int32)) - (x7 - (3600 : Int32)) / (6 : Int32) * (6 : Int32))).bind fun M3 =>
  t222 x0 x1 x2 x3 x4 x5 x6 x7 (0 : Int32) M3))
  else (
  dz (4 : Int32) (
  (sI 0 M1 v2 x5 (x7 - x7 / (4 : Int32) * (4 : Int32))).bind fun M4 =>
  t222 x0 x1 x2 x3 x4 x5 x6 x7 (0 : Int32) M4)))
  else (
  (sI 0 M1 v2 x5 (0 : Int32)).bind fun M5 =>
  t222 x0 x1 x2 x3 x4 x5 x6 x7 (0 : Int32) M5)
def f_X12_lays_178 (F : Nat) (k22 : Nat → Int32 → Int32 → Int32 → Int32 → cM → Option (cM)) : Nat → Int32 → Int32 → Int32 → Int32 → Int32 → Int32 → Int32 → Nat → Int32 → Int32 → cM → Option (cM) := fun x0 x1 x2 x3 x4 x5 x6 x7 s0 s1 s2 M => b_X12_lays_178 F (f_X12_lays_222 F k22 F) x0 x1 x2 x3 x4 x5 x6 x7 s0 s1 s2 M
def b_X12_lays_133 (F : Nat) (t178 : Nat → Int32 → Int32 → Int32 → Int32 → Int32 → Int32 → Int32 → Nat → Int32 → Int32 → cM → Option (cM)) : Nat → Int32 → Int32 → Int32 → Int32 → Int32 → Int32 → Int32 → Nat → Int32 → Int32 → cM → Option (cM) := fun x0 x1 x2 x3 x4 x5 x6 x7 s0 s1 s2 M =>
  (sI 0 M s0 s1 s2).bind fun M1 =>
  (fR M1 x0 10 35).bind fun v2 =>
  if 0 ≤ x7 then (
  if (3600 : Int32) ≤ x7 then (
  dz (6 : Int32) (
  dz (3 : Int32) (
  t178 x0 x1 x2 x3 x4 x5 x6 x7 v2 x5 (((x7 - (3600 : Int32)) / (6 : Int32)) - ((x7 - (3600 : Int32)) / (6 : Int32)) / (3 : Int32) * (3 : Int32)) M1)))
  else (
  dz (4 : Int32) (
  dz (30 : Int32) (
  t178 x0 x1 x2 x3 x4 x5 x6 x7 v2 x5 ((x7 / (4 : Int32)) - (x7 / (4 : Int32)) / (30 : Int32) * (30 : Int32)) M1))))
  else (
  t178 x0 x1 x2 x3 x4 x5 x6 x7 v2 x5 (0 : Int32) M1)
def f_X12_lays_133 (F : Nat) (k22 : Nat → Int32 → Int32 → Int32 → Int32 → cM → Option (cM)) : Nat → Int32 → Int32 → Int32 → Int32 → Int32 → Int32 → Int32 → Nat → Int32 → Int32 → cM → Option (cM) := fun x0 x1 x2 x3 x4 x5 x6 x7 s0 s1 s2 M => b_X12_lays_133 F (f_X12_lays_178 F k22) x0 x1 x2 x3 x4 x5 x6 x7 s0 s1 s2 M
def b_X12_lays_86 (F : Nat) (t133 : Nat → Int32 → Int32 → Int32 → Int32 → Int32 → Int32 → Int32 → Nat → Int32 → Int32 → cM → Option (cM)) : Nat → Int32 → Int32 → Int32 → Int32 → Int32 → Int32 → Int32 → Nat → Int32 → Int32 → cM → Option (cM) := fun x0 x1 x2 x3 x4 x5 x6 x7 s0 s1 s2 M =>
  (sI 0 M s0 s1 s2).bind fun M1 =>
  (fR M1 x0 10 34).bind fun v2 =>
  if 0 ≤ x7 then (
  if (3600 : Int32) ≤ x7 then (
  dz (18 : Int32) (
  t133 x0 x1 x2 x3 x4 x5 x6 x7 v2 x5 ((x7 - (3600 : Int32)) / (18 : Int32)) M1))
  else (
  dz (120 : Int32) (
  t133 x0 x1 x2 x3 x4 x5 x6 x7 v2 x5 (x7 / (120 : Int32)) M1)))
  else (
  (fR M1 x0 10 49).bind fun v3 =>
  (aI 0 M1 v3 x6).bind fun v4 =>
  t133 x0 x1 x2 x3 x4 x5 x6 x7 v2 x5 v4 M1)
def f_X12_lays_86 (F : Nat) (k22 : Nat → Int32 → Int32 → Int32 → Int32 → cM → Option (cM)) : Nat → Int32 → Int32 → Int32 → Int32 → Int32 → Int32 → Int32 → Nat → Int32 → Int32 → cM → Option (cM) := fun x0 x1 x2 x3 x4 x5 x6 x7 s0 s1 s2 M => b_X12_lays_86 F (f_X12_lays_133 F k22) x0 x1 x2 x3 x4 x5 x6 x7 s0 s1 s2 M
def b_X12_lays_22 (F : Nat) (t86 : Nat → Int32 → Int32 → Int32 → Int32 → Int32 → Int32 → Int32 → Nat → Int32 → Int32 → cM → Option (cM)) : Nat → Int32 → Int32 → Int32 → Int32 → cM → Option (cM) := fun x0 x1 x2 x3 x4 M =>
  if x2 ≤ x4 then (
  some M)
  else (
  let v1 : Int32 := ((4 : Int32) * x1) + x4
  (fR M x0 10 73).bind fun v2 =>
  (aI 0 M v2 (((4 : Int32) * x3) + x4)).bind fun v3 =>
  (fI M x0 10 47).bind fun v4 =>
  (fR M x0 10 33).bind fun v5 =>
  if 0 ≤ v3 - v4 then (
  if (3600 : Int32) ≤ v3 - v4 then (
  t86 x0 x1 x2 x3 x4 v1 v3 (v3 - v4) v5 v1 (2 : Int32) M)
  else (
  t86 x0 x1 x2 x3 x4 v1 v3 (v3 - v4) v5 v1 (1 : Int32) M))
  else (
  t86 x0 x1 x2 x3 x4 v1 v3 (v3 - v4) v5 v1 (0 : Int32) M))
def f_X12_lays_22 (F : Nat) : Nat → Nat → Int32 → Int32 → Int32 → Int32 → cM → Option (cM) := fun n => Nat.rec (fun _ _ _ _ _ _ => none) (fun _ ih x0 x1 x2 x3 x4 M => b_X12_lays_22 F (f_X12_lays_86 F ih) x0 x1 x2 x3 x4 M) n
def b_X12_lays_0 (F : Nat) (t22 : Nat → Int32 → Int32 → Int32 → Int32 → cM → Option (cM)) : Nat → Int32 → Int32 → Int32 → cM → Option (cM) := fun x0 x1 x2 x3 M =>
  (fR M x0 10 31).bind fun v1 =>
  (sI 0 M v1 x1 x2).bind fun M2 =>
  (fR M2 x0 10 32).bind fun v3 =>
  (fR M2 x0 10 72).bind fun v4 =>
  (aI 0 M2 v4 x3).bind fun v5 =>
  (sI 0 M2 v3 x1 v5).bind fun M6 =>
  t22 x0 x1 x2 x3 (0 : Int32) M6
def f_X12_lays_0 (F : Nat) : Nat → Int32 → Int32 → Int32 → cM → Option (cM) := fun x0 x1 x2 x3 M => b_X12_lays_0 F (f_X12_lays_22 F F) x0 x1 x2 x3 M
def f_X12_lays (F : Nat) : Nat → Int32 → Int32 → Int32 → cM → Option (cM) := fun a0 a1 a2 a3 M => if isC M a0 10 = true then f_X12_lays_0 F a0 a1 a2 a3 M else none
-- PatchbayScriptModel.counts(I)V
def b_X12_counts_150 (F : Nat) (t37 : Nat → Int32 → cM → Option (cM)) : Nat → Int32 → Int32 → cM → Option (cM) := fun x0 x3 s0 M =>
  if s0 = 0 then (
  t37 x0 s0 M)
  else (
  (fI M x0 10 38).bind fun v1 =>
  (fR M x0 10 74).bind fun v2 =>
  (aI 0 M v2 x3).bind fun v3 =>
  (f_X12_lays F x0 ((66 : Int32) + v1) x3 (((5 : Int32) * x3) + v3) M).bind fun v4 =>
  (fR v4 x0 10 74).bind fun v5 =>
  (aI 0 v4 v5 x3).bind fun v6 =>
  (sI 0 v4 v5 x3 (v6 + (1 : Int32))).bind fun M7 =>
  (fI M7 x0 10 38).bind fun v8 =>
  (pF M7 x0 10 38 (.int (v8 + (1 : Int32)))).bind fun M9 =>
  t37 x0 s0 M9)
def f_X12_counts_150 (F : Nat) (k37 : Nat → Int32 → cM → Option (cM)) : Nat → Int32 → Int32 → cM → Option (cM) := fun x0 x3 s0 M => b_X12_counts_150 F (k37) x0 x3 s0 M
def b_X12_counts_82 (F : Nat) (t54 : Nat → Int32 → Int32 → cM → Option (cM)) : Nat → Int32 → Int32 → Int32 → cM → Option (cM) := fun x0 x3 x4 s0 M =>
  if s0 = 0 then (
  t54 x0 x3 (x4 + (1 : Int32)) M)
  else (
  if x3 = 0 then (
  t54 x0 x4 (x4 + (1 : Int32)) M)
  else (
  (fR M x0 10 72).bind fun v1 =>
  (fR M x0 10 74).bind fun v2 =>
  (aI 0 M v2 x4).bind fun v3 =>
  (aI 0 M v1 (((5 : Int32) * x4) + v3)).bind fun v4 =>
  (fR M x0 10 72).bind fun v5 =>
  (fR M x0 10 74).bind fun v6 =>
  (aI 0 M v6 x3).bind fun v7 =>
  (aI 0 M v5 (((5 : Int32) * x3) + v7)).bind fun v8 =>
  if v8 ≤ v4 then (
  t54 x0 x3 (x4 + (1 : Int32)) M)
  else (
  t54 x0 x4 (x4 + (1 : Int32)) M)))
def f_X12_counts_82 (F : Nat) (k37 : Nat → Int32 → cM → Option (cM)) (k54 : Nat → Int32 → Int32 → cM → Option (cM)) : Nat → Int32 → Int32 → Int32 → cM → Option (cM) := fun x0 x3 x4 s0 M => b_X12_counts_82 F (k54) x0 x3 x4 s0 M
def b_X12_counts_54 (F : Nat) (t82 : Nat → Int32 → Int32 → Int32 → cM → Option (cM)) (t150 : Nat → Int32 → Int32 → cM → Option (cM)) : Nat → Int32 → Int32 → cM → Option (cM) := fun x0 x3 x4 M =>
  if (4 : Int32) < x4 then (
  if x3 ≤ 0 then (
  t150 x0 x3 (0 : Int32) M)
  else (
  t150 x0 x3 (1 : Int32) M))
  else (
  (fR M x0 10 74).bind fun v1 =>
  (aI 0 M v1 x4).bind fun v2 =>
  (fR M x0 10 71).bind fun v3 =>
  (aI 0 M v3 x4).bind fun v4 =>
  if v4 ≤ v2 then (
  t82 x0 x3 x4 (0 : Int32) M)
  else (
  t82 x0 x3 x4 (1 : Int32) M))
def f_X12_counts_54 (F : Nat) (k37 : Nat → Int32 → cM → Option (cM)) : Nat → Nat → Int32 → Int32 → cM → Option (cM) := fun n => Nat.rec (fun _ _ _ _ => none) (fun _ ih x0 x3 x4 M => b_X12_counts_54 F (f_X12_counts_82 F k37 ih) (f_X12_counts_150 F k37) x0 x3 x4 M) n
def b_X12_counts_37 (F : Nat) (t54 : Nat → Int32 → Int32 → cM → Option (cM)) : Nat → Int32 → cM → Option (cM) := fun x0 x2 M =>
  (fI M x0 10 38).bind fun v1 =>
  if (5 : Int32) ≤ v1 then (
  some M)
  else (
  if x2 = 0 then (
  some M)
  else (
  t54 x0 (0 : Int32) (1 : Int32) M))
def f_X12_counts_37 (F : Nat) : Nat → Nat → Int32 → cM → Option (cM) := fun n => Nat.rec (fun _ _ _ => none) (fun _ ih x0 x2 M => b_X12_counts_37 F (f_X12_counts_54 F ih F) x0 x2 M) n
def b_X12_counts_12 (F : Nat) (t12 : Nat → Int32 → cM → Option (cM)) (t37 : Nat → Int32 → cM → Option (cM)) : Nat → Int32 → cM → Option (cM) := fun x0 x2 M =>
  if (4 : Int32) < x2 then (
  t37 x0 (1 : Int32) M)
  else (
  (f_X12_finds F x0 x2 M).bind fun v1 =>
  (fR v1 x0 10 74).bind fun v2 =>
  (sI 0 v1 v2 x2 (0 : Int32)).bind fun M3 =>
  t12 x0 (x2 + (1 : Int32)) M3)
def f_X12_counts_12 (F : Nat) : Nat → Nat → Int32 → cM → Option (cM) := fun n => Nat.rec (fun _ _ _ => none) (fun _ ih x0 x2 M => b_X12_counts_12 F (ih) (f_X12_counts_37 F F) x0 x2 M) n
def b_X12_counts_0 (F : Nat) (t12 : Nat → Int32 → cM → Option (cM)) : Nat → Int32 → cM → Option (cM) := fun x0 x1 M =>
  (f_X12_chooses F x0 x1 M).bind fun v1 =>
  (pF v1 x0 10 38 (.int (0 : Int32))).bind fun M2 =>
  t12 x0 (1 : Int32) M2
def f_X12_counts_0 (F : Nat) : Nat → Int32 → cM → Option (cM) := fun x0 x1 M => b_X12_counts_0 F (f_X12_counts_12 F F) x0 x1 M
def f_X12_counts (F : Nat) : Nat → Int32 → cM → Option (cM) := fun a0 a1 M => if isC M a0 10 = true then f_X12_counts_0 F a0 a1 M else none
-- PatchbayScriptModel.isFit(II)Z
def b_X12_isFit_124 (F : Nat) (t7 : Nat → Int32 → Int32 → Int32 → Int32 → cM → Option (Int32 × cM)) : Nat → Int32 → Int32 → Int32 → Int32 → Int32 → cM → Option (Int32 × cM) := fun x0 x1 x2 x3 x4 x5 M =>
  if x3 = 0 then (
  t7 x0 x1 x2 (0 : Int32) (x4 + (1 : Int32)) M)
  else (
  if x5 = 0 then (
  t7 x0 x1 x2 (1 : Int32) (x4 + (1 : Int32)) M)
  else (
  t7 x0 x1 x2 (0 : Int32) (x4 + (1 : Int32)) M))
def f_X12_isFit_124 (F : Nat) (k7 : Nat → Int32 → Int32 → Int32 → Int32 → cM → Option (Int32 × cM)) : Nat → Int32 → Int32 → Int32 → Int32 → Int32 → cM → Option (Int32 × cM) := fun x0 x1 x2 x3 x4 x5 M => b_X12_isFit_124 F (k7) x0 x1 x2 x3 x4 x5 M
def b_X12_isFit_74 (F : Nat) (t74 : Nat → Int32 → Int32 → Int32 → Int32 → Int32 → Int32 → cM → Option (Int32 × cM)) (t124 : Nat → Int32 → Int32 → Int32 → Int32 → Int32 → cM → Option (Int32 × cM)) : Nat → Int32 → Int32 → Int32 → Int32 → Int32 → Int32 → cM → Option (Int32 × cM) := fun x0 x1 x2 x3 x4 x5 x6 M =>
  (fI M x0 10 45).bind fun v1 =>
  if v1 ≤ x6 then (
  t124 x0 x1 x2 x3 x4 x5 M)
  else (
  if x5 = 0 then (
  t124 x0 x1 x2 x3 x4 x5 M)
  else (
  (fR M x0 10 46).bind fun v2 =>
  (aI 0 M v2 x6).bind fun v3 =>
  (fR M x0 10 17).bind fun v4 =>
  (aI 0 M v4 (((20 : Int32) * x4) + x6)).bind fun v5 =>
  if v3 = v5 then (
  t74 x0 x1 x2 x3 x4 (1 : Int32) (x6 + (1 : Int32)) M)
  else (
  t74 x0 x1 x2 x3 x4 (0 : Int32) (x6 + (1 : Int32)) M)))
def f_X12_isFit_74 (F : Nat) (k7 : Nat → Int32 → Int32 → Int32 → Int32 → cM → Option (Int32 × cM)) : Nat → Nat → Int32 → Int32 → Int32 → Int32 → Int32 → Int32 → cM → Option (Int32 × cM) := fun n => Nat.rec (fun _ _ _ _ _ _ _ _ => none) (fun _ ih x0 x1 x2 x3 x4 x5 x6 M => b_X12_isFit_74 F (ih) (f_X12_isFit_124 F k7) x0 x1 x2 x3 x4 x5 x6 M) n
def b_X12_isFit_7 (F : Nat) (t74 : Nat → Int32 → Int32 → Int32 → Int32 → Int32 → Int32 → cM → Option (Int32 × cM)) : Nat → Int32 → Int32 → Int32 → Int32 → cM → Option (Int32 × cM) := fun x0 x1 x2 x3 x4 M =>
  (fR M x0 10 14).bind fun v1 =>
  (aI 0 M v1 x2).bind fun v2 =>
  if ((4 : Int32) * x2) + v2 ≤ x4 then (
  if x3 = 0 ∨ x3 = 1 then some (x3, M) else none)
  else (
  (fR M x0 10 15).bind fun v3 =>
  (fR M x0 10 16).bind fun v4 =>
  (aI 0 M v4 x4).bind fun v5 =>
  (f_X12_takes F x0 v3 ((20 : Int32) * x4) v5 M).bind fun v6 =>
  (f_X12_makes F x0 x1 v6).bind fun v7 =>
  if v7.1 = 0 then (
  t74 x0 x1 x2 x3 x4 (0 : Int32) (0 : Int32) v7.2)
  else (
  (fI v7.2 x0 10 45).bind fun v8 =>
  (fR v7.2 x0 10 18).bind fun v9 =>
  (aI 0 v7.2 v9 x4).bind fun v10 =>
  if v8 = v10 then (
  t74 x0 x1 x2 x3 x4 (1 : Int32) (0 : Int32) v7.2)
  else (
  t74 x0 x1 x2 x3 x4 (0 : Int32) (0 : Int32) v7.2)))
def f_X12_isFit_7 (F : Nat) : Nat → Nat → Int32 → Int32 → Int32 → Int32 → cM → Option (Int32 × cM) := fun n => Nat.rec (fun _ _ _ _ _ _ => none) (fun _ ih x0 x1 x2 x3 x4 M => b_X12_isFit_7 F (f_X12_isFit_74 F ih F) x0 x1 x2 x3 x4 M) n
def b_X12_isFit_0 (F : Nat) (t7 : Nat → Int32 → Int32 → Int32 → Int32 → cM → Option (Int32 × cM)) : Nat → Int32 → Int32 → cM → Option (Int32 × cM) := fun x0 x1 x2 M =>
  t7 x0 x1 x2 (1 : Int32) ((4 : Int32) * x2) M
def f_X12_isFit_0 (F : Nat) : Nat → Int32 → Int32 → cM → Option (Int32 × cM) := fun x0 x1 x2 M => b_X12_isFit_0 F (f_X12_isFit_7 F F) x0 x1 x2 M
def f_X12_isFit (F : Nat) : Nat → Int32 → Int32 → cM → Option (Int32 × cM) := fun a0 a1 a2 M => if isC M a0 10 = true then f_X12_isFit_0 F a0 a1 a2 M else none
-- PatchbayScriptModel.learns(I)Z
def b_X12_learns_84 (F : Nat) : Nat → Int32 → cM → Option (Int32 × cM) := fun x0 x1 M =>
  (fR M x0 10 39).bind fun v1 =>
  (aI 0 M v1 x1).bind fun v2 =>
  if v2 = (1 : Int32) then (
  some ((1 : Int32), M))
  else (
  some ((0 : Int32), M))
def f_X12_learns_84 (F : Nat) : Nat → Int32 → cM → Option (Int32 × cM) := fun x0 x1 M => b_X12_learns_84 F x0 x1 M
def b_X12_learns_63 (F : Nat) (t84 : Nat → Int32 → cM → Option (Int32 × cM)) : Nat → Int32 → Int32 → Nat → Int32 → Int32 → cM → Option (Int32 × cM) := fun x0 x1 x2 s0 s1 s2 M =>
  (sI 0 M s0 s1 s2).bind fun M1 =>
  (fI M1 x0 10 38).bind fun v2 =>
  if v2 ≤ x2 then (
  t84 x0 x1 M1)
  else (
  (f_X12_copies F x0 ((66 : Int32) + x2) ((71 : Int32) + x1) M1).bind fun v3 =>
  t84 x0 x1 v3)
def f_X12_learns_63 (F : Nat) : Nat → Int32 → Int32 → Nat → Int32 → Int32 → cM → Option (Int32 × cM) := fun x0 x1 x2 s0 s1 s2 M => b_X12_learns_63 F (f_X12_learns_84 F) x0 x1 x2 s0 s1 s2 M
def b_X12_learns_45 (F : Nat) (t63 : Nat → Int32 → Int32 → Nat → Int32 → Int32 → cM → Option (Int32 × cM)) : Nat → Int32 → Int32 → cM → Option (Int32 × cM) := fun x0 x1 x2 M =>
  (fR M x0 10 39).bind fun v1 =>
  (fI M x0 10 38).bind fun v2 =>
  if v2 ≤ x2 then (
  t63 x0 x1 x2 v1 x1 (2 : Int32) M)
  else (
  t63 x0 x1 x2 v1 x1 (1 : Int32) M)
def f_X12_learns_45 (F : Nat) : Nat → Int32 → Int32 → cM → Option (Int32 × cM) := fun x0 x1 x2 M => b_X12_learns_45 F (f_X12_learns_63 F) x0 x1 x2 M
def b_X12_learns_16 (F : Nat) (t16 : Nat → Int32 → Int32 → cM → Option (Int32 × cM)) (t45 : Nat → Int32 → Int32 → cM → Option (Int32 × cM)) : Nat → Int32 → Int32 → cM → Option (Int32 × cM) := fun x0 x1 x2 M =>
  (fI M x0 10 38).bind fun v1 =>
  if v1 ≤ x2 then (
  t45 x0 x1 x2 M)
  else (
  (fI M x0 10 56).bind fun v2 =>
  (f_X12_isFit F x0 ((66 : Int32) + x2) v2 M).bind fun v3 =>
  if v3.1 = 0 then (
  t16 x0 x1 (x2 + (1 : Int32)) v3.2)
  else (
  t45 x0 x1 x2 v3.2))
def f_X12_learns_16 (F : Nat) : Nat → Nat → Int32 → Int32 → cM → Option (Int32 × cM) := fun n => Nat.rec (fun _ _ _ _ => none) (fun _ ih x0 x1 x2 M => b_X12_learns_16 F (ih) (f_X12_learns_45 F) x0 x1 x2 M) n
def b_X12_learns_0 (F : Nat) (t16 : Nat → Int32 → Int32 → cM → Option (Int32 × cM)) (t84 : Nat → Int32 → cM → Option (Int32 × cM)) : Nat → Int32 → cM → Option (Int32 × cM) := fun x0 x1 M =>
  (fR M x0 10 39).bind fun v1 =>
  (aI 0 M v1 x1).bind fun v2 =>
  if v2 = 0 then (
  (f_X12_counts F x0 x1 M).bind fun v3 =>
  t16 x0 x1 (0 : Int32) v3)
  else (
  t84 x0 x1 M)
def f_X12_learns_0 (F : Nat) : Nat → Int32 → cM → Option (Int32 × cM) := fun x0 x1 M => b_X12_learns_0 F (f_X12_learns_16 F F) (f_X12_learns_84 F) x0 x1 M
def f_X12_learns (F : Nat) : Nat → Int32 → cM → Option (Int32 × cM) := fun a0 a1 M => if isC M a0 10 = true then f_X12_learns_0 F a0 a1 M else none
-- PatchbayScriptModel.parts(II)I
def b_X12_parts_5 (F : Nat) (t5 : Nat → Int32 → Int32 → Int32 → Int32 → cM → Option (Int32 × cM)) : Nat → Int32 → Int32 → Int32 → Int32 → cM → Option (Int32 × cM) := fun x0 x1 x2 x3 x4 M =>
  (fR M x0 10 8).bind fun v1 =>
  (aI 0 M v1 x1).bind fun v2 =>
  if v2 ≤ x4 then (
  some (x3, M))
  else (
  (fR M x0 10 10).bind fun v3 =>
  (fR M x0 10 11).bind fun v4 =>
  (aI 0 M v4 (((4 : Int32) * x1) + x4)).bind fun v5 =>
  (f_X12_takes F x0 v3 ((20 : Int32) * (((4 : Int32) * x1) + x4)) v5 M).bind fun v6 =>
  (f_X12_holds F x0 x2 v6).bind fun v7 =>
  if v7.1 = 0 then (
  let v8 : Int32 := x3 ||| (0 : Int32)
  t5 x0 x1 x2 v8 (x4 + (1 : Int32)) v7.2)
  else (
  let v9 : Int32 := x3 ||| ((1 : Int32) <<< (x4 &&& 31))
  t5 x0 x1 x2 v9 (x4 + (1 : Int32)) v7.2))
def f_X12_parts_5 (F : Nat) : Nat → Nat → Int32 → Int32 → Int32 → Int32 → cM → Option (Int32 × cM) := fun n => Nat.rec (fun _ _ _ _ _ _ => none) (fun _ ih x0 x1 x2 x3 x4 M => b_X12_parts_5 F (ih) x0 x1 x2 x3 x4 M) n
def b_X12_parts_0 (F : Nat) (t5 : Nat → Int32 → Int32 → Int32 → Int32 → cM → Option (Int32 × cM)) : Nat → Int32 → Int32 → cM → Option (Int32 × cM) := fun x0 x1 x2 M =>
  t5 x0 x1 x2 (0 : Int32) (0 : Int32) M
def f_X12_parts_0 (F : Nat) : Nat → Int32 → Int32 → cM → Option (Int32 × cM) := fun x0 x1 x2 M => b_X12_parts_0 F (f_X12_parts_5 F F) x0 x1 x2 M
def f_X12_parts (F : Nat) : Nat → Int32 → Int32 → cM → Option (Int32 × cM) := fun a0 a1 a2 M => if isC M a0 10 = true then f_X12_parts_0 F a0 a1 a2 M else none
-- PatchbayScriptModel.learn(I)I
def b_X12_learn_270 (F : Nat) : Nat → Int32 → Int32 → Nat → Int32 → Int32 → cM → Option (Int32 × cM) := fun x0 x1 x3 s0 s1 s2 M =>
  (sI 3 M s0 s1 s2).bind fun M1 =>
  (fR M1 x0 10 26).bind fun v2 =>
  (fR M1 x0 10 26).bind fun v3 =>
  (aI 3 M1 v3 x1).bind fun v4 =>
  if v4 = 0 then (
  (sI 3 M1 v2 x1 (0 : Int32)).bind fun M5 =>
  some (x3, M5))
  else (
  (fR M1 x0 10 24).bind fun v6 =>
  (aI 3 M1 v6 x1).bind fun v7 =>
  if v7 = 0 then (
  (sI 3 M1 v2 x1 (0 : Int32)).bind fun M8 =>
  some (x3, M8))
  else (
  (sI 3 M1 v2 x1 (1 : Int32)).bind fun M9 =>
  some (x3, M9)))
def f_X12_learn_270 (F : Nat) : Nat → Int32 → Int32 → Nat → Int32 → Int32 → cM → Option (Int32 × cM) := fun x0 x1 x3 s0 s1 s2 M => b_X12_learn_270 F x0 x1 x3 s0 s1 s2 M
def b_X12_learn_210 (F : Nat) (t127 : Nat → Int32 → Int32 → Int32 → Int32 → cM → Option (Int32 × cM)) : Nat → Int32 → Int32 → Int32 → Int32 → Int32 → cM → Option (Int32 × cM) := fun x0 x1 x2 x4 x5 x6 M =>
  (fR M x0 10 25).bind fun v1 =>
  (sI 0 M v1 x1 x4).bind fun M2 =>
  (f_X12_copies F x0 ((71 : Int32) + x5) ((2 : Int32) * x1) M2).bind fun v3 =>
  (f_X12_copies F x0 (((71 : Int32) + x2) - x5) (((2 : Int32) * x1) + (1 : Int32)) v3).bind fun v4 =>
  t127 x0 x1 x2 x6 (x4 + (1 : Int32)) v4
def f_X12_learn_210 (F : Nat) (k127 : Nat → Int32 → Int32 → Int32 → Int32 → cM → Option (Int32 × cM)) : Nat → Int32 → Int32 → Int32 → Int32 → Int32 → cM → Option (Int32 × cM) := fun x0 x1 x2 x4 x5 x6 M => b_X12_learn_210 F (k127) x0 x1 x2 x4 x5 x6 M
def b_X12_learn_174 (F : Nat) (t127 : Nat → Int32 → Int32 → Int32 → Int32 → cM → Option (Int32 × cM)) (t210 : Nat → Int32 → Int32 → Int32 → Int32 → Int32 → cM → Option (Int32 × cM)) : Nat → Int32 → Int32 → Int32 → Int32 → Int32 → cM → Option (Int32 × cM) := fun x0 x1 x2 x3 x4 x5 M =>
  (fR M x0 10 32).bind fun v1 =>
  (aI 0 M v1 ((71 : Int32) + x5)).bind fun v2 =>
  (fR M x0 10 32).bind fun v3 =>
  (aI 0 M v3 (((71 : Int32) + x2) - x5)).bind fun v4 =>
  if x3 = (-1 : Int32) then (
  t210 x0 x1 x2 x4 x5 (v2 + v4) M)
  else (
  if x3 ≤ v2 + v4 then (
  t127 x0 x1 x2 x3 (x4 + (1 : Int32)) M)
  else (
  t210 x0 x1 x2 x4 x5 (v2 + v4) M))
def f_X12_learn_174 (F : Nat) (k127 : Nat → Int32 → Int32 → Int32 → Int32 → cM → Option (Int32 × cM)) : Nat → Int32 → Int32 → Int32 → Int32 → Int32 → cM → Option (Int32 × cM) := fun x0 x1 x2 x3 x4 x5 M => b_X12_learn_174 F (k127) (f_X12_learn_210 F k127) x0 x1 x2 x3 x4 x5 M
def b_X12_learn_127 (F : Nat) (t127 : Nat → Int32 → Int32 → Int32 → Int32 → cM → Option (Int32 × cM)) (t174 : Nat → Int32 → Int32 → Int32 → Int32 → Int32 → cM → Option (Int32 × cM)) (t270 : Nat → Int32 → Int32 → Nat → Int32 → Int32 → cM → Option (Int32 × cM)) : Nat → Int32 → Int32 → Int32 → Int32 → cM → Option (Int32 × cM) := fun x0 x1 x2 x3 x4 M =>
  if (20 : Int32) < x4 then (
  (fR M x0 10 24).bind fun v1 =>
  if x3 = (-1 : Int32) then (
  t270 x0 x1 x3 v1 x1 (0 : Int32) M)
  else (
  t270 x0 x1 x3 v1 x1 (1 : Int32) M))
  else (
  (f_X12_parts F x0 x1 x4 M).bind fun v2 =>
  if v2.1 = 0 then (
  t127 x0 x1 x2 x3 (x4 + (1 : Int32)) v2.2)
  else (
  if v2.1 = x2 then (
  t127 x0 x1 x2 x3 (x4 + (1 : Int32)) v2.2)
  else (
  (f_X12_learns F x0 v2.1 v2.2).bind fun v3 =>
  if v3.1 = 0 then (
  t127 x0 x1 x2 x3 (x4 + (1 : Int32)) v3.2)
  else (
  (f_X12_learns F x0 (x2 - v2.1) v3.2).bind fun v4 =>
  if v4.1 = 0 then (
  t127 x0 x1 x2 x3 (x4 + (1 : Int32)) v4.2)
  else (
  t174 x0 x1 x2 x3 x4 v2.1 v4.2)))))
def f_X12_learn_127 (F : Nat) : Nat → Nat → Int32 → Int32 → Int32 → Int32 → cM → Option (Int32 × cM) := fun n => Nat.rec (fun _ _ _ _ _ _ => none) (fun _ ih x0 x1 x2 x3 x4 M => b_X12_learn_127 F (ih) (f_X12_learn_174 F ih) (f_X12_learn_270 F) x0 x1 x2 x3 x4 M) n
def b_X12_learn_51 (F : Nat) (t51 : Nat → Int32 → Int32 → Int32 → cM → Option (Int32 × cM)) (t127 : Nat → Int32 → Int32 → Int32 → Int32 → cM → Option (Int32 × cM)) : Nat → Int32 → Int32 → Int32 → cM → Option (Int32 × cM) := fun x0 x1 x2 x3 M =>
  if (16 : Int32) ≤ x3 then (
  (f_X12_gathers F x0 x1 M).bind fun v1 =>
  (fR v1 x0 10 24).bind fun v2 =>
  (f_X12_learns F x0 x2 v1).bind fun v3 =>
  (sI 3 v3.2 v2 x1 v3.1).bind fun M4 =>
  (fR M4 x0 10 25).bind fun v5 =>
  (sI 0 M4 v5 x1 (-1 : Int32)).bind fun M6 =>
  (fR M6 x0 10 24).bind fun v7 =>
  (aI 3 M6 v7 x1).bind fun v8 =>
  if v8 = 0 then (
  t127 x0 x1 x2 (-1 : Int32) (0 : Int32) M6)
  else (
  (f_X12_copies F x0 ((71 : Int32) + x2) ((2 : Int32) * x1) M6).bind fun v9 =>
  (fR v9 x0 10 32).bind fun v10 =>
  (aI 0 v9 v10 ((2 : Int32) * x1)).bind fun v11 =>
  some (v11, v9)))
  else (
  (fR M x0 10 39).bind fun v12 =>
  (sI 0 M v12 x3 (0 : Int32)).bind fun M13 =>
  t51 x0 x1 x2 (x3 + (1 : Int32)) M13)
def f_X12_learn_51 (F : Nat) : Nat → Nat → Int32 → Int32 → Int32 → cM → Option (Int32 × cM) := fun n => Nat.rec (fun _ _ _ _ _ => none) (fun _ ih x0 x1 x2 x3 M => b_X12_learn_51 F (ih) (f_X12_learn_127 F F) x0 x1 x2 x3 M) n
def b_X12_learn_26 (F : Nat) (t51 : Nat → Int32 → Int32 → Int32 → cM → Option (Int32 × cM)) : Nat → Int32 → Nat → Int32 → cM → Option (Int32 × cM) := fun x0 x1 s0 s1 M =>
  (pF M s0 10 0 (.int s1)).bind fun M1 =>
  (fI M1 x0 10 0).bind fun v2 =>
  if v2 ≤ 0 then (
  (fR M1 x0 10 8).bind fun v3 =>
  (aI 0 M1 v3 x1).bind fun v4 =>
  let v5 : Int32 := ((1 : Int32) <<< (v4 &&& 31)) - (1 : Int32)
  t51 x0 x1 v5 (0 : Int32) M1)
  else (
  some ((0 : Int32), M1))
def f_X12_learn_26 (F : Nat) : Nat → Int32 → Nat → Int32 → cM → Option (Int32 × cM) := fun x0 x1 s0 s1 M => b_X12_learn_26 F (f_X12_learn_51 F F) x0 x1 s0 s1 M
def b_X12_learn_0 (F : Nat) (t26 : Nat → Int32 → Nat → Int32 → cM → Option (Int32 × cM)) : Nat → Int32 → cM → Option (Int32 × cM) := fun x0 x1 M =>
  (f_X12_isTask F x1 M).bind fun v1 =>
  if v1.1 = 0 then (
  t26 x0 x1 x0 (1 : Int32) v1.2)
  else (
  (fR v1.2 x0 10 8).bind fun v2 =>
  (aI 0 v1.2 v2 x1).bind fun v3 =>
  if v3 = 0 then (
  t26 x0 x1 x0 (2 : Int32) v1.2)
  else (
  t26 x0 x1 x0 (0 : Int32) v1.2))
def f_X12_learn_0 (F : Nat) : Nat → Int32 → cM → Option (Int32 × cM) := fun x0 x1 M => b_X12_learn_0 F (f_X12_learn_26 F) x0 x1 M
def f_X12_learn (F : Nat) : Nat → Int32 → cM → Option (Int32 × cM) := fun a0 a1 M => if isC M a0 10 = true then f_X12_learn_0 F a0 a1 M else none
-- PatchbayScriptModel.countsAll(I)V
def b_X12_countsAll_0 (F : Nat) : Nat → Int32 → cM → Option (cM) := fun x0 x1 M =>
  (pF M x0 10 38 (.int (0 : Int32))).bind fun M1 =>
  (fR M1 x0 10 8).bind fun v2 =>
  (aI 0 M1 v2 x1).bind fun v3 =>
  if v3 ≤ 0 then (
  some M1)
  else (
  (f_X12_gathers F x0 x1 M1).bind fun v4 =>
  (fR v4 x0 10 8).bind fun v5 =>
  (aI 0 v4 v5 x1).bind fun v6 =>
  (f_X12_counts F x0 (((1 : Int32) <<< (v6 &&& 31)) - (1 : Int32)) v4).bind fun v7 =>
  some v7)
def f_X12_countsAll_0 (F : Nat) : Nat → Int32 → cM → Option (cM) := fun x0 x1 M => b_X12_countsAll_0 F x0 x1 M
def f_X12_countsAll (F : Nat) : Nat → Int32 → cM → Option (cM) := fun a0 a1 M => if isC M a0 10 = true then f_X12_countsAll_0 F a0 a1 M else none
-- PatchbayScriptModel.count(I)I
def b_X12_count_13 (F : Nat) : Nat → Int32 → Nat → Int32 → cM → Option (Int32 × cM) := fun x0 x1 s0 s1 M =>
  (pF M s0 10 0 (.int s1)).bind fun M1 =>
  (fI M1 x0 10 0).bind fun v2 =>
  if v2 ≤ 0 then (
  (f_X12_countsAll F x0 x1 M1).bind fun v3 =>
  (fI v3 x0 10 38).bind fun v4 =>
  some (v4, v3))
  else (
  some ((0 : Int32), M1))
def f_X12_count_13 (F : Nat) : Nat → Int32 → Nat → Int32 → cM → Option (Int32 × cM) := fun x0 x1 s0 s1 M => b_X12_count_13 F x0 x1 s0 s1 M
def b_X12_count_0 (F : Nat) (t13 : Nat → Int32 → Nat → Int32 → cM → Option (Int32 × cM)) : Nat → Int32 → cM → Option (Int32 × cM) := fun x0 x1 M =>
  (f_X12_isTask F x1 M).bind fun v1 =>
  if v1.1 = 0 then (
  t13 x0 x1 x0 (1 : Int32) v1.2)
  else (
  t13 x0 x1 x0 (0 : Int32) v1.2)
def f_X12_count_0 (F : Nat) : Nat → Int32 → cM → Option (Int32 × cM) := fun x0 x1 M => b_X12_count_0 F (f_X12_count_13 F) x0 x1 M
def f_X12_count (F : Nat) : Nat → Int32 → cM → Option (Int32 × cM) := fun a0 a1 M => if isC M a0 10 = true then f_X12_count_0 F a0 a1 M else none
-- PatchbayScriptModel.weight(II)I
def b_X12_weight_17 (F : Nat) : Nat → Int32 → Int32 → Nat → Int32 → cM → Option (Int32 × cM) := fun x0 x1 x2 s0 s1 M =>
  (pF M s0 10 0 (.int s1)).bind fun M1 =>
  (fI M1 x0 10 0).bind fun v2 =>
  if v2 ≤ 0 then (
  (f_X12_countsAll F x0 x1 M1).bind fun v3 =>
  (fI v3 x0 10 38).bind fun v4 =>
  if v4 ≤ x2 then (
  (f_X12_fails F x0 (1 : Int32) v3).bind fun v5 =>
  some (v5.1, v5.2))
  else (
  (fR v3 x0 10 32).bind fun v6 =>
  (aI 0 v3 v6 ((66 : Int32) + x2)).bind fun v7 =>
  some (v7, v3)))
  else (
  some ((0 : Int32), M1))
def f_X12_weight_17 (F : Nat) : Nat → Int32 → Int32 → Nat → Int32 → cM → Option (Int32 × cM) := fun x0 x1 x2 s0 s1 M => b_X12_weight_17 F x0 x1 x2 s0 s1 M
def b_X12_weight_0 (F : Nat) (t17 : Nat → Int32 → Int32 → Nat → Int32 → cM → Option (Int32 × cM)) : Nat → Int32 → Int32 → cM → Option (Int32 × cM) := fun x0 x1 x2 M =>
  (f_X12_isTask F x1 M).bind fun v1 =>
  if v1.1 = 0 then (
  t17 x0 x1 x2 x0 (1 : Int32) v1.2)
  else (
  if x2 < 0 then (
  t17 x0 x1 x2 x0 (1 : Int32) v1.2)
  else (
  t17 x0 x1 x2 x0 (0 : Int32) v1.2))
def f_X12_weight_0 (F : Nat) : Nat → Int32 → Int32 → cM → Option (Int32 × cM) := fun x0 x1 x2 M => b_X12_weight_0 F (f_X12_weight_17 F) x0 x1 x2 M
def f_X12_weight (F : Nat) : Nat → Int32 → Int32 → cM → Option (Int32 × cM) := fun a0 a1 a2 M => if isC M a0 10 = true then f_X12_weight_0 F a0 a1 a2 M else none
-- PatchbayScriptModel.differ(II)Z
def b_X12_differ_131 (F : Nat) (t14 : Nat → Int32 → Int32 → Int32 → Int32 → cM → Option (Int32 × cM)) (t131 : Nat → Int32 → Int32 → Int32 → Int32 → Int32 → Int32 → cM → Option (Int32 × cM)) : Nat → Int32 → Int32 → Int32 → Int32 → Int32 → Int32 → cM → Option (Int32 × cM) := fun x0 x2 x3 x5 x6 x7 x8 M =>
  if x6 ≤ x8 then (
  if x3 = 0 then (
  if x7 = 0 then (
  t14 x0 x2 (1 : Int32) x6 (x5 + (1 : Int32)) M)
  else (
  t14 x0 x2 (0 : Int32) x6 (x5 + (1 : Int32)) M))
  else (
  t14 x0 x2 (1 : Int32) x6 (x5 + (1 : Int32)) M))
  else (
  (fR M x0 10 75).bind fun v1 =>
  (fR M x0 10 46).bind fun v2 =>
  (aI 0 M v2 x8).bind fun v3 =>
  (sI 0 M v1 x8 v3).bind fun M4 =>
  t131 x0 x2 x3 x5 x6 x7 (x8 + (1 : Int32)) M4)
def f_X12_differ_131 (F : Nat) (k14 : Nat → Int32 → Int32 → Int32 → Int32 → cM → Option (Int32 × cM)) : Nat → Nat → Int32 → Int32 → Int32 → Int32 → Int32 → Int32 → cM → Option (Int32 × cM) := fun n => Nat.rec (fun _ _ _ _ _ _ _ _ => none) (fun _ ih x0 x2 x3 x5 x6 x7 x8 M => b_X12_differ_131 F (k14) (ih) x0 x2 x3 x5 x6 x7 x8 M) n
def b_X12_differ_79 (F : Nat) (t79 : Nat → Int32 → Int32 → Int32 → Int32 → Int32 → Int32 → Int32 → cM → Option (Int32 × cM)) (t131 : Nat → Int32 → Int32 → Int32 → Int32 → Int32 → Int32 → cM → Option (Int32 × cM)) : Nat → Int32 → Int32 → Int32 → Int32 → Int32 → Int32 → Int32 → cM → Option (Int32 × cM) := fun x0 x2 x3 x4 x5 x6 x7 x8 M =>
  if x6 ≤ x8 then (
  t131 x0 x2 x3 x5 x6 x7 (0 : Int32) M)
  else (
  if x4 = x6 then (
  if x7 = 0 then (
  t79 x0 x2 x3 x4 x5 x6 (0 : Int32) (x8 + (1 : Int32)) M)
  else (
  (fR M x0 10 46).bind fun v1 =>
  (aI 0 M v1 x8).bind fun v2 =>
  (fR M x0 10 75).bind fun v3 =>
  (aI 0 M v3 x8).bind fun v4 =>
  if v2 = v4 then (
  t79 x0 x2 x3 x4 x5 x6 (1 : Int32) (x8 + (1 : Int32)) M)
  else (
  t79 x0 x2 x3 x4 x5 x6 (0 : Int32) (x8 + (1 : Int32)) M)))
  else (
  t131 x0 x2 x3 x5 x6 x7 (0 : Int32) M))
def f_X12_differ_79 (F : Nat) (k14 : Nat → Int32 → Int32 → Int32 → Int32 → cM → Option (Int32 × cM)) : Nat → Nat → Int32 → Int32 → Int32 → Int32 → Int32 → Int32 → Int32 → cM → Option (Int32 × cM) := fun n => Nat.rec (fun _ _ _ _ _ _ _ _ _ => none) (fun _ ih x0 x2 x3 x4 x5 x6 x7 x8 M => b_X12_differ_79 F (ih) (f_X12_differ_131 F k14 F) x0 x2 x3 x4 x5 x6 x7 x8 M) n
def b_X12_differ_53 (F : Nat) (t79 : Nat → Int32 → Int32 → Int32 → Int32 → Int32 → Int32 → Int32 → cM → Option (Int32 × cM)) : Nat → Int32 → Int32 → Int32 → Int32 → Int32 → cM → Option (Int32 × cM) := fun x0 x2 x3 x4 x5 s0 M =>
  if x4 = (-2 : Int32) then (
  t79 x0 x2 x3 x4 x5 s0 (1 : Int32) (0 : Int32) M)
  else (
  if x4 = s0 then (
  t79 x0 x2 x3 x4 x5 s0 (1 : Int32) (0 : Int32) M)
  else (
  t79 x0 x2 x3 x4 x5 s0 (0 : Int32) (0 : Int32) M))
def f_X12_differ_53 (F : Nat) (k14 : Nat → Int32 → Int32 → Int32 → Int32 → cM → Option (Int32 × cM)) : Nat → Int32 → Int32 → Int32 → Int32 → Int32 → cM → Option (Int32 × cM) := fun x0 x2 x3 x4 x5 s0 M => b_X12_differ_53 F (f_X12_differ_79 F k14 F) x0 x2 x3 x4 x5 s0 M
def b_X12_differ_14 (F : Nat) (t14 : Nat → Int32 → Int32 → Int32 → Int32 → cM → Option (Int32 × cM)) (t53 : Nat → Int32 → Int32 → Int32 → Int32 → Int32 → cM → Option (Int32 × cM)) : Nat → Int32 → Int32 → Int32 → Int32 → cM → Option (Int32 × cM) := fun x0 x2 x3 x4 x5 M =>
  (fI M x0 10 38).bind fun v1 =>
  if v1 ≤ x5 then (
  if x3 = 0 ∨ x3 = 1 then some (x3, M) else none)
  else (
  if (x2 >>> (x5 &&& 31)) &&& (1 : Int32) = (1 : Int32) then (
  (f_X12_makes F x0 ((66 : Int32) + x5) M).bind fun v2 =>
  if v2.1 = 0 then (
  t53 x0 x2 x3 x4 x5 (-1 : Int32) v2.2)
  else (
  (fI v2.2 x0 10 45).bind fun v3 =>
  t53 x0 x2 x3 x4 x5 v3 v2.2))
  else (
  t14 x0 x2 x3 x4 (x5 + (1 : Int32)) M))
def f_X12_differ_14 (F : Nat) : Nat → Nat → Int32 → Int32 → Int32 → Int32 → cM → Option (Int32 × cM) := fun n => Nat.rec (fun _ _ _ _ _ _ => none) (fun _ ih x0 x2 x3 x4 x5 M => b_X12_differ_14 F (ih) (f_X12_differ_53 F ih) x0 x2 x3 x4 x5 M) n
def b_X12_differ_0 (F : Nat) (t14 : Nat → Int32 → Int32 → Int32 → Int32 → cM → Option (Int32 × cM)) : Nat → Int32 → Int32 → cM → Option (Int32 × cM) := fun x0 x1 x2 M =>
  (f_X12_laysLine F x0 x1 M).bind fun v1 =>
  t14 x0 x2 (0 : Int32) (-2 : Int32) (0 : Int32) v1
def f_X12_differ_0 (F : Nat) : Nat → Int32 → Int32 → cM → Option (Int32 × cM) := fun x0 x1 x2 M => b_X12_differ_0 F (f_X12_differ_14 F F) x0 x1 x2 M
def f_X12_differ (F : Nat) : Nat → Int32 → Int32 → cM → Option (Int32 × cM) := fun a0 a1 a2 M => if isC M a0 10 = true then f_X12_differ_0 F a0 a1 a2 M else none
-- PatchbayScriptModel.question(I)I
def b_X12_question_80 (F : Nat) (t80 : Nat → Int32 → Int32 → Int32 → Int32 → cM → Option (Int32 × cM)) : Nat → Int32 → Int32 → Int32 → Int32 → cM → Option (Int32 × cM) := fun x0 x1 x2 x3 x4 M =>
  if x4 < 0 then (
  some (x3, M))
  else (
  (f_X12_isShownOn F x0 x1 x4 M).bind fun v1 =>
  if v1.1 = 0 then (
  (f_X12_differ F x0 x4 x2 v1.2).bind fun v2 =>
  if v2.1 = 0 then (
  t80 x0 x1 x2 x3 (x4 + (-1 : Int32)) v2.2)
  else (
  t80 x0 x1 x2 x4 (x4 + (-1 : Int32)) v2.2))
  else (
  t80 x0 x1 x2 x3 (x4 + (-1 : Int32)) v1.2))
def f_X12_question_80 (F : Nat) : Nat → Nat → Int32 → Int32 → Int32 → Int32 → cM → Option (Int32 × cM) := fun n => Nat.rec (fun _ _ _ _ _ _ => none) (fun _ ih x0 x1 x2 x3 x4 M => b_X12_question_80 F (ih) x0 x1 x2 x3 x4 M) n
def b_X12_question_34 (F : Nat) (t34 : Nat → Int32 → Int32 → Int32 → cM → Option (Int32 × cM)) (t80 : Nat → Int32 → Int32 → Int32 → Int32 → cM → Option (Int32 × cM)) : Nat → Int32 → Int32 → Int32 → cM → Option (Int32 × cM) := fun x0 x1 x2 x3 M =>
  (fI M x0 10 38).bind fun v1 =>
  if v1 ≤ x3 then (
  (fI M x0 10 3).bind fun v2 =>
  t80 x0 x1 x2 (-1 : Int32) (v2 - (1 : Int32)) M)
  else (
  (f_X12_isFit F x0 ((66 : Int32) + x3) x1 M).bind fun v3 =>
  if v3.1 = 0 then (
  let v4 : Int32 := x2 ||| (0 : Int32)
  t34 x0 x1 v4 (x3 + (1 : Int32)) v3.2)
  else (
  let v5 : Int32 := x2 ||| ((1 : Int32) <<< (x3 &&& 31))
  t34 x0 x1 v5 (x3 + (1 : Int32)) v3.2))
def f_X12_question_34 (F : Nat) : Nat → Nat → Int32 → Int32 → Int32 → cM → Option (Int32 × cM) := fun n => Nat.rec (fun _ _ _ _ _ => none) (fun _ ih x0 x1 x2 x3 M => b_X12_question_34 F (ih) (f_X12_question_80 F F) x0 x1 x2 x3 M) n
def b_X12_question_13 (F : Nat) (t34 : Nat → Int32 → Int32 → Int32 → cM → Option (Int32 × cM)) : Nat → Int32 → Nat → Int32 → cM → Option (Int32 × cM) := fun x0 x1 s0 s1 M =>
  (pF M s0 10 0 (.int s1)).bind fun M1 =>
  (fI M1 x0 10 0).bind fun v2 =>
  if v2 ≤ 0 then (
  (f_X12_countsAll F x0 x1 M1).bind fun v3 =>
  t34 x0 x1 (0 : Int32) (0 : Int32) v3)
  else (
  some ((0 : Int32), M1))
def f_X12_question_13 (F : Nat) : Nat → Int32 → Nat → Int32 → cM → Option (Int32 × cM) := fun x0 x1 s0 s1 M => b_X12_question_13 F (f_X12_question_34 F F) x0 x1 s0 s1 M
def b_X12_question_0 (F : Nat) (t13 : Nat → Int32 → Nat → Int32 → cM → Option (Int32 × cM)) : Nat → Int32 → cM → Option (Int32 × cM) := fun x0 x1 M =>
  (f_X12_isTask F x1 M).bind fun v1 =>
  if v1.1 = 0 then (
  t13 x0 x1 x0 (1 : Int32) v1.2)
  else (
  t13 x0 x1 x0 (0 : Int32) v1.2)
def f_X12_question_0 (F : Nat) : Nat → Int32 → cM → Option (Int32 × cM) := fun x0 x1 M => b_X12_question_0 F (f_X12_question_13 F) x0 x1 M
def f_X12_question (F : Nat) : Nat → Int32 → cM → Option (Int32 × cM) := fun a0 a1 M => if isC M a0 10 = true then f_X12_question_0 F a0 a1 M else none
-- PatchbayScriptModel.condition(I)I
def b_X12_condition_13 (F : Nat) : Nat → Int32 → Nat → Int32 → cM → Option (Int32 × cM) := fun x0 x1 s0 s1 M =>
  (pF M s0 10 0 (.int s1)).bind fun M1 =>
  (fI M1 x0 10 0).bind fun v2 =>
  if v2 ≤ 0 then (
  (fR M1 x0 10 24).bind fun v3 =>
  (aI 3 M1 v3 x1).bind fun v4 =>
  if v4 = 0 then (
  some ((-1 : Int32), M1))
  else (
  (fR M1 x0 10 25).bind fun v5 =>
  (aI 0 M1 v5 x1).bind fun v6 =>
  some (v6, M1)))
  else (
  some ((0 : Int32), M1))
def f_X12_condition_13 (F : Nat) : Nat → Int32 → Nat → Int32 → cM → Option (Int32 × cM) := fun x0 x1 s0 s1 M => b_X12_condition_13 F x0 x1 s0 s1 M
def b_X12_condition_0 (F : Nat) (t13 : Nat → Int32 → Nat → Int32 → cM → Option (Int32 × cM)) : Nat → Int32 → cM → Option (Int32 × cM) := fun x0 x1 M =>
  (f_X12_isTask F x1 M).bind fun v1 =>
  if v1.1 = 0 then (
  t13 x0 x1 x0 (1 : Int32) v1.2)
  else (
  t13 x0 x1 x0 (0 : Int32) v1.2)
def f_X12_condition_0 (F : Nat) : Nat → Int32 → cM → Option (Int32 × cM) := fun x0 x1 M => b_X12_condition_0 F (f_X12_condition_13 F) x0 x1 M
def f_X12_condition (F : Nat) : Nat → Int32 → cM → Option (Int32 × cM) := fun a0 a1 M => if isC M a0 10 = true then f_X12_condition_0 F a0 a1 M else none
-- PatchbayScriptModel.atomAt(IZII)I
def b_X12_atomAt_81 (F : Nat) : Nat → Int32 → Int32 → Int32 → cM → Option (Int32 × cM) := fun x0 x3 x4 x5 M =>
  (fR M x0 10 31).bind fun v1 =>
  (aI 0 M v1 x5).bind fun v2 =>
  if x3 < v2 then (
  let v3 : Int32 := ((4 : Int32) * x5) + x3
  if x4 = (0 : Int32) then (
  (fR M x0 10 33).bind fun v25 =>
  (aI 0 M v25 v3).bind fun v26 =>
  some (v26, M))
  else (
  if x4 = (4 : Int32) then (
  (fR M x0 10 33).bind fun v16 =>
  (aI 0 M v16 v3).bind fun v17 =>
  (fR M x0 10 34).bind fun v18 =>
  (aI 0 M v18 v3).bind fun v19 =>
  (fR M x0 10 35).bind fun v20 =>
  (aI 0 M v20 v3).bind fun v21 =>
  (fR M x0 10 36).bind fun v22 =>
  (aI 0 M v22 v3).bind fun v23 =>
  (f_X12_atomWeight F v17 v19 v21 v23 M).bind fun v24 =>
  some (v24.1, v24.2))
  else (
  (fR M x0 10 33).bind fun v4 =>
  (aI 0 M v4 v3).bind fun v5 =>
  if v5 = 0 then (
  (fR M x0 10 34).bind fun v6 =>
  (aI 0 M v6 v3).bind fun v7 =>
  if v7 < x4 then (
  some ((0 : Int32), M))
  else (
  (fR M x0 10 37).bind fun v8 =>
  (aI 0 M v8 ((((4 : Int32) * v3) + x4) - (1 : Int32))).bind fun v9 =>
  some (v9, M)))
  else (
  if x4 = (1 : Int32) then (
  (fR M x0 10 34).bind fun v10 =>
  (aI 0 M v10 v3).bind fun v11 =>
  some (v11, M))
  else (
  if x4 = (2 : Int32) then (
  (fR M x0 10 35).bind fun v12 =>
  (aI 0 M v12 v3).bind fun v13 =>
  some (v13, M))
  else (
  (fR M x0 10 36).bind fun v14 =>
  (aI 0 M v14 v3).bind fun v15 =>
  some (v15, M)))))))
  else (
  some ((-1 : Int32), M))
def f_X12_atomAt_81 (F : Nat) : Nat → Int32 → Int32 → Int32 → cM → Option (Int32 × cM) := fun x0 x3 x4 x5 M => b_X12_atomAt_81 F x0 x3 x4 x5 M
def b_X12_atomAt_55 (F : Nat) (t81 : Nat → Int32 → Int32 → Int32 → cM → Option (Int32 × cM)) : Nat → Int32 → Int32 → Int32 → Int32 → Int32 → Int32 → cM → Option (Int32 × cM) := fun x0 x1 x2 x3 x4 s0 s1 M =>
  (fR M x0 10 24).bind fun v1 =>
  (aI 3 M v1 x1).bind fun v2 =>
  if v2 = 0 then (
  some ((-1 : Int32), M))
  else (
  if x2 = 0 then (
  t81 x0 x3 x4 (s0 + s1) M)
  else (
  (fR M x0 10 25).bind fun v3 =>
  (aI 0 M v3 x1).bind fun v4 =>
  if v4 = (-1 : Int32) then (
  some ((-1 : Int32), M))
  else (
  t81 x0 x3 x4 (s0 + s1) M)))
def f_X12_atomAt_55 (F : Nat) : Nat → Int32 → Int32 → Int32 → Int32 → Int32 → Int32 → cM → Option (Int32 × cM) := fun x0 x1 x2 x3 x4 s0 s1 M => b_X12_atomAt_55 F (f_X12_atomAt_81 F) x0 x1 x2 x3 x4 s0 s1 M
def b_X12_atomAt_31 (F : Nat) (t55 : Nat → Int32 → Int32 → Int32 → Int32 → Int32 → Int32 → cM → Option (Int32 × cM)) : Nat → Int32 → Int32 → Int32 → Int32 → Nat → Int32 → cM → Option (Int32 × cM) := fun x0 x1 x2 x3 x4 s0 s1 M =>
  (pF M s0 10 0 (.int s1)).bind fun M1 =>
  (fI M1 x0 10 0).bind fun v2 =>
  if v2 ≤ 0 then (
  if x2 = 0 then (
  t55 x0 x1 x2 x3 x4 ((2 : Int32) * x1) (0 : Int32) M1)
  else (
  t55 x0 x1 x2 x3 x4 ((2 : Int32) * x1) (1 : Int32) M1))
  else (
  some ((0 : Int32), M1))
def f_X12_atomAt_31 (F : Nat) : Nat → Int32 → Int32 → Int32 → Int32 → Nat → Int32 → cM → Option (Int32 × cM) := fun x0 x1 x2 x3 x4 s0 s1 M => b_X12_atomAt_31 F (f_X12_atomAt_55 F) x0 x1 x2 x3 x4 s0 s1 M
def b_X12_atomAt_0 (F : Nat) (t31 : Nat → Int32 → Int32 → Int32 → Int32 → Nat → Int32 → cM → Option (Int32 × cM)) : Nat → Int32 → Int32 → Int32 → Int32 → cM → Option (Int32 × cM) := fun x0 x1 x2 x3 x4 M =>
  (f_X12_isTask F x1 M).bind fun v1 =>
  if v1.1 = 0 then (
  t31 x0 x1 x2 x3 x4 x0 (1 : Int32) v1.2)
  else (
  if 0 ≤ x3 then (
  (f_X12_isIn F x4 (0 : Int32) (4 : Int32) v1.2).bind fun v2 =>
  if v2.1 = 0 then (
  t31 x0 x1 x2 x3 x4 x0 (2 : Int32) v2.2)
  else (
  t31 x0 x1 x2 x3 x4 x0 (0 : Int32) v2.2))
  else (
  t31 x0 x1 x2 x3 x4 x0 (1 : Int32) v1.2))
def f_X12_atomAt_0 (F : Nat) : Nat → Int32 → Int32 → Int32 → Int32 → cM → Option (Int32 × cM) := fun x0 x1 x2 x3 x4 M => b_X12_atomAt_0 F (f_X12_atomAt_31 F) x0 x1 x2 x3 x4 M
def f_X12_atomAt (F : Nat) : Nat → Int32 → Int32 → Int32 → Int32 → cM → Option (Int32 × cM) := fun a0 a1 a2 a3 a4 M => if isC M a0 10 = true then f_X12_atomAt_0 F a0 a1 a2 a3 a4 M else none
-- PatchbayScriptModel.preview(III)C
def b_X12_preview_25 (F : Nat) : Nat → Int32 → Int32 → Int32 → Nat → Int32 → cM → Option (Int32 × cM) := fun x0 x1 x2 x3 s0 s1 M =>
  (pF M s0 10 0 (.int s1)).bind fun M1 =>
  (fI M1 x0 10 0).bind fun v2 =>
  if v2 ≤ 0 then (
  (f_X12_laysLine F x0 x2 M1).bind fun v3 =>
  (fR v3 x0 10 24).bind fun v4 =>
  (aI 3 v3 v4 x1).bind fun v5 =>
  if v5 = 0 then (
  some ((63 : Int32), v3))
  else (
  (fR v3 x0 10 25).bind fun v6 =>
  (aI 0 v3 v6 x1).bind fun v7 =>
  (f_X12_makesBy F x0 ((2 : Int32) * x1) v7 v3).bind fun v8 =>
  if v8.1 = 0 then (
  some ((63 : Int32), v8.2))
  else (
  (fI v8.2 x0 10 45).bind fun v9 =>
  if v9 ≤ x3 then (
  some ((33 : Int32), v8.2))
  else (
  (fR v8.2 x0 10 46).bind fun v10 =>
  (aI 0 v8.2 v10 x3).bind fun v11 =>
  if vp_nar .char ((v11.toUInt32 % 65536).toInt32) = (v11.toUInt32 % 65536).toInt32 then some ((v11.toUInt32 % 65536).toInt32, v8.2) else none))))
  else (
  some ((32 : Int32), M1))
def f_X12_preview_25 (F : Nat) : Nat → Int32 → Int32 → Int32 → Nat → Int32 → cM → Option (Int32 × cM) := fun x0 x1 x2 x3 s0 s1 M => b_X12_preview_25 F x0 x1 x2 x3 s0 s1 M
def b_X12_preview_0 (F : Nat) (t25 : Nat → Int32 → Int32 → Int32 → Nat → Int32 → cM → Option (Int32 × cM)) : Nat → Int32 → Int32 → Int32 → cM → Option (Int32 × cM) := fun x0 x1 x2 x3 M =>
  (f_X12_isTask F x1 M).bind fun v1 =>
  if v1.1 = 0 then (
  t25 x0 x1 x2 x3 x0 (1 : Int32) v1.2)
  else (
  (f_X12_isLine F x0 x2 v1.2).bind fun v2 =>
  if v2.1 = 0 then (
  t25 x0 x1 x2 x3 x0 (1 : Int32) v2.2)
  else (
  if x3 < 0 then (
  t25 x0 x1 x2 x3 x0 (1 : Int32) v2.2)
  else (
  t25 x0 x1 x2 x3 x0 (0 : Int32) v2.2)))
def f_X12_preview_0 (F : Nat) : Nat → Int32 → Int32 → Int32 → cM → Option (Int32 × cM) := fun x0 x1 x2 x3 M => b_X12_preview_0 F (f_X12_preview_25 F) x0 x1 x2 x3 M
def f_X12_preview (F : Nat) : Nat → Int32 → Int32 → Int32 → cM → Option (Int32 × cM) := fun a0 a1 a2 a3 M => if isC M a0 10 = true then f_X12_preview_0 F a0 a1 a2 a3 M else none
-- PatchbayScriptModel.run(IIII)I
def b_X12_run_156 (F : Nat) (t96 : Nat → Int32 → Int32 → Int32 → Int32 → Int32 → Int32 → cM → Option (Int32 × cM)) : Nat → Int32 → Int32 → Int32 → Int32 → Int32 → Int32 → Int32 → cM → Option (Int32 × cM) := fun x0 x1 x3 x4 x5 x7 x8 s0 M =>
  (fI M x0 10 30).bind fun v1 =>
  if x8 = 0 then (
  if x4 = (2 : Int32) then (
  (pF M x0 10 30 (.int (v1 ||| ((1 : Int32) <<< (x7 &&& 31))))).bind fun M2 =>
  t96 x0 x1 x3 x4 x5 s0 (x7 + (1 : Int32)) M2)
  else (
  (pF M x0 10 30 (.int (v1 ||| (0 : Int32)))).bind fun M3 =>
  t96 x0 x1 x3 x4 x5 s0 (x7 + (1 : Int32)) M3))
  else (
  (pF M x0 10 30 (.int (v1 ||| (0 : Int32)))).bind fun M4 =>
  t96 x0 x1 x3 x4 x5 s0 (x7 + (1 : Int32)) M4)
def f_X12_run_156 (F : Nat) (k96 : Nat → Int32 → Int32 → Int32 → Int32 → Int32 → Int32 → cM → Option (Int32 × cM)) : Nat → Int32 → Int32 → Int32 → Int32 → Int32 → Int32 → Int32 → cM → Option (Int32 × cM) := fun x0 x1 x3 x4 x5 x7 x8 s0 M => b_X12_run_156 F (k96) x0 x1 x3 x4 x5 x7 x8 s0 M
def b_X12_run_138 (F : Nat) (t156 : Nat → Int32 → Int32 → Int32 → Int32 → Int32 → Int32 → Int32 → cM → Option (Int32 × cM)) : Nat → Int32 → Int32 → Int32 → Int32 → Int32 → Int32 → Int32 → cM → Option (Int32 × cM) := fun x0 x1 x3 x4 x7 x8 s0 s1 M =>
  if x8 = 0 then (
  if x4 = 0 then (
  t156 x0 x1 x3 x4 (s0 + s1) x7 x8 (1 : Int32) M)
  else (
  t156 x0 x1 x3 x4 (s0 + s1) x7 x8 (0 : Int32) M))
  else (
  t156 x0 x1 x3 x4 (s0 + s1) x7 x8 (0 : Int32) M)
def f_X12_run_138 (F : Nat) (k96 : Nat → Int32 → Int32 → Int32 → Int32 → Int32 → Int32 → cM → Option (Int32 × cM)) : Nat → Int32 → Int32 → Int32 → Int32 → Int32 → Int32 → Int32 → cM → Option (Int32 × cM) := fun x0 x1 x3 x4 x7 x8 s0 s1 M => b_X12_run_138 F (f_X12_run_156 F k96) x0 x1 x3 x4 x7 x8 s0 s1 M
def b_X12_run_96 (F : Nat) (t96 : Nat → Int32 → Int32 → Int32 → Int32 → Int32 → Int32 → cM → Option (Int32 × cM)) (t138 : Nat → Int32 → Int32 → Int32 → Int32 → Int32 → Int32 → Int32 → cM → Option (Int32 × cM)) : Nat → Int32 → Int32 → Int32 → Int32 → Int32 → Int32 → cM → Option (Int32 × cM) := fun x0 x1 x3 x4 x5 x6 x7 M =>
  if x3 < x7 then (
  some (x5, M))
  else (
  if x6 = 0 then (
  (f_X12_isShownOn F x0 x1 x7 M).bind fun v1 =>
  if v1.1 = 0 then (
  (f_X12_runsOn F x0 x1 x7 v1.2).bind fun v2 =>
  if v2.1 = 0 then (
  t138 x0 x1 x3 x4 x7 v2.1 x5 (0 : Int32) v2.2)
  else (
  t138 x0 x1 x3 x4 x7 v2.1 x5 (1 : Int32) v2.2))
  else (
  t96 x0 x1 x3 x4 x5 x6 (x7 + (1 : Int32)) v1.2))
  else (
  some (x5, M)))
def f_X12_run_96 (F : Nat) : Nat → Nat → Int32 → Int32 → Int32 → Int32 → Int32 → Int32 → cM → Option (Int32 × cM) := fun n => Nat.rec (fun _ _ _ _ _ _ _ _ => none) (fun _ ih x0 x1 x3 x4 x5 x6 x7 M => b_X12_run_96 F (ih) (f_X12_run_138 F ih) x0 x1 x3 x4 x5 x6 x7 M) n
def b_X12_run_70 (F : Nat) (t96 : Nat → Int32 → Int32 → Int32 → Int32 → Int32 → Int32 → cM → Option (Int32 × cM)) : Nat → Int32 → Int32 → Int32 → Int32 → Nat → Int32 → cM → Option (Int32 × cM) := fun x0 x1 x2 x3 x4 s0 s1 M =>
  (pF M s0 10 0 (.int s1)).bind fun M1 =>
  (fI M1 x0 10 0).bind fun v2 =>
  if v2 ≤ 0 then (
  (f_X12_begins F x0 x1 M1).bind fun v3 =>
  t96 x0 x1 x3 x4 (0 : Int32) (0 : Int32) x2 v3)
  else (
  some ((0 : Int32), M1))
def f_X12_run_70 (F : Nat) : Nat → Int32 → Int32 → Int32 → Int32 → Nat → Int32 → cM → Option (Int32 × cM) := fun x0 x1 x2 x3 x4 s0 s1 M => b_X12_run_70 F (f_X12_run_96 F F) x0 x1 x2 x3 x4 s0 s1 M
def b_X12_run_0 (F : Nat) (t70 : Nat → Int32 → Int32 → Int32 → Int32 → Nat → Int32 → cM → Option (Int32 × cM)) : Nat → Int32 → Int32 → Int32 → Int32 → cM → Option (Int32 × cM) := fun x0 x1 x2 x3 x4 M =>
  (f_X12_isTask F x1 M).bind fun v1 =>
  if v1.1 = 0 then (
  t70 x0 x1 x2 x3 x4 x0 (1 : Int32) v1.2)
  else (
  (f_X12_isLine F x0 x2 v1.2).bind fun v2 =>
  if v2.1 = 0 then (
  t70 x0 x1 x2 x3 x4 x0 (1 : Int32) v2.2)
  else (
  (f_X12_isLine F x0 x3 v2.2).bind fun v3 =>
  if v3.1 = 0 then (
  t70 x0 x1 x2 x3 x4 x0 (1 : Int32) v3.2)
  else (
  if x3 < x2 then (
  t70 x0 x1 x2 x3 x4 x0 (2 : Int32) v3.2)
  else (
  (f_X12_isIn F x4 (0 : Int32) (2 : Int32) v3.2).bind fun v4 =>
  if v4.1 = 0 then (
  t70 x0 x1 x2 x3 x4 x0 (2 : Int32) v4.2)
  else (
  (fR v4.2 x0 10 24).bind fun v5 =>
  (aI 3 v4.2 v5 x1).bind fun v6 =>
  if v6 = 0 then (
  t70 x0 x1 x2 x3 x4 x0 (3 : Int32) v4.2)
  else (
  (fI v4.2 x0 10 27).bind fun v7 =>
  if v7 = (30 : Int32) then (
  t70 x0 x1 x2 x3 x4 x0 (3 : Int32) v4.2)
  else (
  t70 x0 x1 x2 x3 x4 x0 (0 : Int32) v4.2)))))))
def f_X12_run_0 (F : Nat) : Nat → Int32 → Int32 → Int32 → Int32 → cM → Option (Int32 × cM) := fun x0 x1 x2 x3 x4 M => b_X12_run_0 F (f_X12_run_70 F) x0 x1 x2 x3 x4 M
def f_X12_run (F : Nat) : Nat → Int32 → Int32 → Int32 → Int32 → cM → Option (Int32 × cM) := fun a0 a1 a2 a3 a4 M => if isC M a0 10 = true then f_X12_run_0 F a0 a1 a2 a3 a4 M else none
-- PatchbayScriptModel.runs()I
def b_X12_runs_0 (F : Nat) : Nat → cM → Option (Int32 × cM) := fun x0 M =>
  (pF M x0 10 0 (.int (0 : Int32))).bind fun M1 =>
  (fI M1 x0 10 27).bind fun v2 =>
  some (v2, M1)
def f_X12_runs_0 (F : Nat) : Nat → cM → Option (Int32 × cM) := fun x0 M => b_X12_runs_0 F x0 M
def f_X12_runs (F : Nat) : Nat → cM → Option (Int32 × cM) := fun a0 M => if isC M a0 10 = true then f_X12_runs_0 F a0 M else none
-- PatchbayScriptModel.undo(I)Z
def b_X12_undo_51 (F : Nat) : Nat → Int32 → Nat → Int32 → Int32 → cM → Option (Int32 × cM) := fun x0 x1 s0 s1 s2 M =>
  (sI 3 M s0 s1 s2).bind fun M1 =>
  (fR M1 x0 10 28).bind fun v2 =>
  (aI 3 M1 v2 x1).bind fun v3 =>
  if v3 = 0 then (
  some ((1 : Int32), M1))
  else (
  some ((0 : Int32), M1))
def f_X12_undo_51 (F : Nat) : Nat → Int32 → Nat → Int32 → Int32 → cM → Option (Int32 × cM) := fun x0 x1 s0 s1 s2 M => b_X12_undo_51 F x0 x1 s0 s1 s2 M
def b_X12_undo_20 (F : Nat) (t51 : Nat → Int32 → Nat → Int32 → Int32 → cM → Option (Int32 × cM)) : Nat → Int32 → Nat → Int32 → cM → Option (Int32 × cM) := fun x0 x1 s0 s1 M =>
  (pF M s0 10 0 (.int s1)).bind fun M1 =>
  (fI M1 x0 10 0).bind fun v2 =>
  if v2 ≤ 0 then (
  (fR M1 x0 10 28).bind fun v3 =>
  (fR M1 x0 10 28).bind fun v4 =>
  (aI 3 M1 v4 x1).bind fun v5 =>
  if v5 = 0 then (
  t51 x0 x1 v3 x1 (1 : Int32) M1)
  else (
  t51 x0 x1 v3 x1 (0 : Int32) M1))
  else (
  some ((0 : Int32), M1))
def f_X12_undo_20 (F : Nat) : Nat → Int32 → Nat → Int32 → cM → Option (Int32 × cM) := fun x0 x1 s0 s1 M => b_X12_undo_20 F (f_X12_undo_51 F) x0 x1 s0 s1 M
def b_X12_undo_0 (F : Nat) (t20 : Nat → Int32 → Nat → Int32 → cM → Option (Int32 × cM)) : Nat → Int32 → cM → Option (Int32 × cM) := fun x0 x1 M =>
  (fI M x0 10 27).bind fun v1 =>
  (f_X12_isIn F x1 (0 : Int32) (v1 - (1 : Int32)) M).bind fun v2 =>
  if v2.1 = 0 then (
  t20 x0 x1 x0 (1 : Int32) v2.2)
  else (
  t20 x0 x1 x0 (0 : Int32) v2.2)
def f_X12_undo_0 (F : Nat) : Nat → Int32 → cM → Option (Int32 × cM) := fun x0 x1 M => b_X12_undo_0 F (f_X12_undo_20 F) x0 x1 M
def f_X12_undo (F : Nat) : Nat → Int32 → cM → Option (Int32 × cM) := fun a0 a1 M => if isC M a0 10 = true then f_X12_undo_0 F a0 a1 M else none
-- PatchbayScriptModel.stand(IZ)Z
def b_X12_stand_30 (F : Nat) : Nat → Int32 → Int32 → Nat → Int32 → cM → Option (Int32 × cM) := fun x0 x1 x2 s0 s1 M =>
  (pF M s0 10 0 (.int s1)).bind fun M1 =>
  (fI M1 x0 10 0).bind fun v2 =>
  if v2 ≤ 0 then (
  (fR M1 x0 10 26).bind fun v3 =>
  (aI 3 M1 v3 x1).bind fun v4 =>
  (fR M1 x0 10 26).bind fun v5 =>
  (sI 3 M1 v5 x1 x2).bind fun M6 =>
  if v4 = 0 ∨ v4 = 1 then some (v4, M6) else none)
  else (
  some ((0 : Int32), M1))
def f_X12_stand_30 (F : Nat) : Nat → Int32 → Int32 → Nat → Int32 → cM → Option (Int32 × cM) := fun x0 x1 x2 s0 s1 M => b_X12_stand_30 F x0 x1 x2 s0 s1 M
def b_X12_stand_0 (F : Nat) (t30 : Nat → Int32 → Int32 → Nat → Int32 → cM → Option (Int32 × cM)) : Nat → Int32 → Int32 → cM → Option (Int32 × cM) := fun x0 x1 x2 M =>
  (f_X12_isTask F x1 M).bind fun v1 =>
  if v1.1 = 0 then (
  t30 x0 x1 x2 x0 (1 : Int32) v1.2)
  else (
  if x2 = 0 then (
  t30 x0 x1 x2 x0 (0 : Int32) v1.2)
  else (
  (fR v1.2 x0 10 24).bind fun v2 =>
  (aI 3 v1.2 v2 x1).bind fun v3 =>
  if v3 = 0 then (
  t30 x0 x1 x2 x0 (2 : Int32) v1.2)
  else (
  t30 x0 x1 x2 x0 (0 : Int32) v1.2)))
def f_X12_stand_0 (F : Nat) : Nat → Int32 → Int32 → cM → Option (Int32 × cM) := fun x0 x1 x2 M => b_X12_stand_0 F (f_X12_stand_30 F) x0 x1 x2 M
def f_X12_stand (F : Nat) : Nat → Int32 → Int32 → cM → Option (Int32 × cM) := fun a0 a1 a2 M => if isC M a0 10 = true then f_X12_stand_0 F a0 a1 a2 M else none
-- PatchbayScriptModel.asked()I
def b_X12_asked_0 (F : Nat) : Nat → cM → Option (Int32 × cM) := fun x0 M =>
  (pF M x0 10 0 (.int (0 : Int32))).bind fun M1 =>
  (fI M1 x0 10 30).bind fun v2 =>
  (pF M1 x0 10 30 (.int (0 : Int32))).bind fun M3 =>
  some (v2, M3)
def f_X12_asked_0 (F : Nat) : Nat → cM → Option (Int32 × cM) := fun x0 M => b_X12_asked_0 F x0 M
def f_X12_asked (F : Nat) : Nat → cM → Option (Int32 × cM) := fun a0 M => if isC M a0 10 = true then f_X12_asked_0 F a0 M else none
