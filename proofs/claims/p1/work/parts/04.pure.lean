/-! THE PURE MACHINE: cells in a row, references are places in the row; one method's bytecode is walked by 'stp' and 'run'. -/
abbrev cE : Type := (Nat × vp_A) ⊕ (Nat × List Value)
abbrev cM : Type := List cE
def cV (B : Nat) : Value → Value
  | .ref k => .ref (B + k)
  | .retAddr k => .ref k
  | v => v
def cAr (B : Nat) : vp_A → vp_A
  | (n, .inr (.inr (.inr (.inr f)))) => (n, .inr (.inr (.inr (.inr (fun j => (f j).map (fun q => B + q))))))
  | x => x
def cT (B : Nat) (aC : Nat → ClassId) : cE → va_E
  | .inl (t, x) => .inl (aC t, cAr B x)
  | .inr (ci, fs) => .inr (ci, fs.map (cV B))
def cW (B : Nat) (aC : Nat → ClassId) (M : cM) : va_W := M.mapIdx (fun k e => (B + k, cT B aC e))
-- fields
def gF (M : cM) (a ci k : Nat) : Option Value := match M[a]? with
  | some (.inr (c, fs)) => if c = ci then fs[k]? else none
  | _ => none
def fI (M : cM) (a ci k : Nat) : Option Int32 := match gF M a ci k with
  | some (.int x) => some x
  | _ => none
def fJ (M : cM) (a ci k : Nat) : Option Int64 := match gF M a ci k with
  | some (.long x) => some x
  | _ => none
def fR (M : cM) (a ci k : Nat) : Option Nat := match gF M a ci k with
  | some (.ref q) => some q
  | _ => none
def fO (M : cM) (a ci k : Nat) : Option (Option Nat) := match gF M a ci k with
  | some (.ref q) => some (some q)
  | some .null => some none
  | _ => none
def pF (M : cM) (a ci k : Nat) (v : Value) : Option cM := match M[a]? with
  | some (.inr (c, fs)) => if c = ci ∧ k < fs.length then some (M.set a (.inr (c, fs.set k v))) else none
  | _ => none
-- arrays: 0 int, 1 long, 2 char, 3 boolean, 4.. references by the class of what they hold
def tcl (t : Nat) : Nat := match t with
  | 4 => 0
  | 5 => 3
  | 6 => 4
  | 7 => 5
  | 8 => 7
  | _ => 8
def nrT (t : Nat) (x : Int32) : Int32 := if t = 2 then vp_nar .char x else if t = 3 then vp_nar .boolean x else x
def aI (t : Nat) (M : cM) (a : Nat) (i : Int32) : Option Int32 := match M[a]? with
  | some (.inl (t', n, .inl f)) => if t' = t ∧ ¬ (i < 0 ∨ n ≤ i.toNatClampNeg) then some (f i.toNatClampNeg) else none
  | _ => none
def sI (t : Nat) (M : cM) (a : Nat) (i x : Int32) : Option cM := match M[a]? with
  | some (.inl (t', n, .inl f)) => if t' = t ∧ ¬ (i < 0 ∨ n ≤ i.toNatClampNeg) then some (M.set a (.inl (t', n, .inl (upd f i.toNatClampNeg (nrT t x))))) else none
  | _ => none
def aJ (M : cM) (a : Nat) (i : Int32) : Option Int64 := match M[a]? with
  | some (.inl (t', n, .inr (.inl f))) => if t' = 1 ∧ ¬ (i < 0 ∨ n ≤ i.toNatClampNeg) then some (f i.toNatClampNeg) else none
  | _ => none
def sJ (M : cM) (a : Nat) (i : Int32) (x : Int64) : Option cM := match M[a]? with
  | some (.inl (t', n, .inr (.inl f))) => if t' = 1 ∧ ¬ (i < 0 ∨ n ≤ i.toNatClampNeg) then some (M.set a (.inl (t', n, .inr (.inl (vp_updL f i.toNatClampNeg x))))) else none
  | _ => none
def aR (M : cM) (a : Nat) (i : Int32) : Option Nat := match M[a]? with
  | some (.inl (t', n, .inr (.inr (.inr (.inr f))))) => if (4 ≤ t' ∧ t' < 10) ∧ ¬ (i < 0 ∨ n ≤ i.toNatClampNeg) then f i.toNatClampNeg else none
  | _ => none
def sR (M : cM) (a : Nat) (i : Int32) (q : Nat) : Option cM := match M[a]?, M[q]? with
  | some (.inl (t', n, .inr (.inr (.inr (.inr f))))), some (.inr (ci, _)) => if (4 ≤ t' ∧ t' < 10 ∧ tcl t' = ci) ∧ ¬ (i < 0 ∨ n ≤ i.toNatClampNeg) then some (M.set a (.inl (t', n, .inr (.inr (.inr (.inr (va_up f i.toNatClampNeg (some q)))))))) else none
  | _, _ => none
def aN (M : cM) (a : Nat) : Option Int32 := match M[a]? with
  | some (.inl (t', n, _)) => if t' < 10 then some (Int32.ofNat n) else none
  | _ => none
-- locals
def lI (vs : List (Option Value)) (i : Nat) : Option Int32 := match vs[i]? with
  | some (some (.int x)) => some x
  | _ => none
def lJ (vs : List (Option Value)) (i : Nat) : Option Int64 := match vs[i]? with
  | some (some (.long x)) => some x
  | _ => none
def lR (vs : List (Option Value)) (i : Nat) : Option Nat := match vs[i]? with
  | some (some (.ref x)) => some x
  | _ => none
def isL : Option (Option Value) → Bool
  | some (some v) => v.category == 2
  | _ => false
def cut1 (vs : List (Option Value)) (i : Nat) : List (Option Value) := match i with
  | 0 => vs
  | j + 1 => if isL vs[j]? then vs.set j none else vs
def sto (vs : List (Option Value)) (i : Nat) (v : Value) : List (Option Value) := (cut1 vs i).set i (some v)
def sto2 (vs : List (Option Value)) (i : Nat) (v : Value) : List (Option Value) := (sto vs i v).set (i + 1) none
-- stacks
def aS (st : List Value) (i : Nat) : Option Value := st[i]?
section
variable {R : Type}
def b2 (f : Int32 → Int32 → Int32) (st : List Value) (k : List Value → Option R) : Option R := match st with
  | .int y :: .int x :: st' => k (.int (f x y) :: st')
  | _ => none
/-- a divisor that is 0 ends it -/
def dz (y : Int32) (k : Option R) : Option R := if y = 0 then none else k
def d2 (f : Int32 → Int32 → Int32) (st : List Value) (k : List Value → Option R) : Option R := match st with
  | .int y :: .int x :: st' => dz y (k (.int (f x y) :: st'))
  | _ => none
def l2 (f : Int64 → Int64 → Int64) (st : List Value) (k : List Value → Option R) : Option R := match st with
  | .long y :: .long x :: st' => k (.long (f x y) :: st')
  | _ => none
def h2 (f : Int64 → Int32 → Int64) (st : List Value) (k : List Value → Option R) : Option R := match st with
  | .int y :: .long x :: st' => k (.long (f x y) :: st')
  | _ => none
def oc (o : Option Nat) (x : Option R) (f : Nat → Option R) : Option R := match o with
  | none => x
  | some q => f q
/-- what a getfield hands on, by the kind of its field: 0 int and its like, 1 long, 2 a reference, 3 a reference or null, 4 boolean, 12 a final reference, 22 a final one of the own class -/
def gfk (kd : Nat) (M : cM) (a ci k : Nat) (κ : Value → Option R) : Option R := match kd with
  | 1 => (fJ M a ci k).bind fun x => κ (.long x)
  | 2 => (fR M a ci k).bind fun q => κ (.ref q)
  | 12 => (fR M a ci k).bind fun q => κ (.ref q)
  | 22 => (fR M a ci k).bind fun q => κ (.ref q)
  | 3 => (fO M a ci k).bind fun o => oc o (κ .null) (fun q => κ (.ref q))
  | _ => (fI M a ci k).bind fun x => κ (.int x)
def pfk (md : Bool) (kd : Nat) (M : cM) (a ci k : Nat) (v : Value) (κ : cM → Option R) : Option R := match kd, v with
  | 0, .int x => (pF M a ci k (.int x)).bind κ
  | 1, .long x => (pF M a ci k (.long x)).bind κ
  | 2, .ref q => (pF M a ci k (.ref q)).bind κ
  | 3, .ref q => (pF M a ci k (.ref q)).bind κ
  | 4, .int x => if x = 0 ∨ x = 1 then (pF M a ci k (.int x)).bind κ else none
  | 22, .ref q => if md = true then (pF M a ci k (.ref q)).bind κ else none
  | _, _ => none
def swk (l : List (Int32 × Nat)) (d : Nat) (x : Int32) (k : Nat → Option R) : Option R := match l with
  | [] => k d
  | (a, t) :: r => if x = a then k t else swk r d x k
def rtk (rk : Nat) (x : Int32) (k : Option R) : Option R := match rk with
  | 0 => k
  | 1 => if x = 0 ∨ x = 1 then k else none
  | 2 => if vp_nar .char x = x then k else none
  | _ => none
/-- what a class's constant pool holds: ints, longs, fields (class, place, kind), classes that are made (number, first contents), array classes -/
abbrev cP : Type := (Nat → Option Int32) × (Nat → Option Int64) × (Nat → Option (Nat × Nat × Nat)) × (Nat → Option (Nat × List Value)) × (Nat → Option Nat)
/-- one instruction -/
def stp (C : cP) (md : Bool) (rk : Nat) (na : Nat → Nat) (ca : Nat → List Value → cM → (Option Value → cM → Option R) → (Nat → cM → Option R) → Option R) (th : Nat → Option Nat) (sw : Nat → Option (List (Int32 × Nat) × Nat)) (kr : Option Value → cM → Option R) (kx : Nat → cM → Option R)
    (go : Nat → List (Option Value) → List Value → cM → Option R) (i : Instr) (pc nx tg : Nat) (vs : List (Option Value)) (st : List Value) (M : cM) : Option R := match i with
  | .iconst n => go nx vs (.int (Int32.ofInt n) :: st) M
  | .bipush n => go nx vs (.int (Int32.ofInt n) :: st) M
  | .sipush n => go nx vs (.int (Int32.ofInt n) :: st) M
  | .lconst n => go nx vs (.long (Int64.ofNat n) :: st) M
  | .ldc k => (C.1 k).bind fun v => go nx vs (.int v :: st) M
  | .ldc_w k => (C.1 k).bind fun v => go nx vs (.int v :: st) M
  | .ldc2_w k => (C.2.1 k).bind fun v => go nx vs (.long v :: st) M
  | .iload_n k => (lI vs k).bind fun x => go nx vs (.int x :: st) M
  | .iload k => (lI vs k).bind fun x => go nx vs (.int x :: st) M
  | .lload_n k => (lJ vs k).bind fun x => go nx vs (.long x :: st) M
  | .lload k => (lJ vs k).bind fun x => go nx vs (.long x :: st) M
  | .aload_n k => (lR vs k).bind fun x => go nx vs (.ref x :: st) M
  | .aload k => (lR vs k).bind fun x => go nx vs (.ref x :: st) M
  | .istore_n k => match st with
    | .int x :: st' => if (k : Nat) < vs.length then go nx (sto vs k (.int x)) st' M else none
    | _ => none
  | .istore k => match st with
    | .int x :: st' => if k < vs.length then go nx (sto vs k (.int x)) st' M else none
    | _ => none
  | .lstore_n k => match st with
    | .long x :: st' => if (k : Nat) + 1 < vs.length then go nx (sto2 vs k (.long x)) st' M else none
    | _ => none
  | .lstore k => match st with
    | .long x :: st' => if k + 1 < vs.length then go nx (sto2 vs k (.long x)) st' M else none
    | _ => none
  | .astore_n k => match st with
    | .ref x :: st' => if (k : Nat) < vs.length then go nx (sto vs k (.ref x)) st' M else none
    | _ => none
  | .astore k => match st with
    | .ref x :: st' => if k < vs.length then go nx (sto vs k (.ref x)) st' M else none
    | _ => none
  | .iinc k n => (lI vs k).bind fun x => if k < vs.length then go nx (sto vs k (.int (x + Int32.ofInt n))) st M else none
  | .iadd => b2 (fun x y => x + y) st fun st => go nx vs st M
  | .isub => b2 (fun x y => x - y) st fun st => go nx vs st M
  | .imul => b2 (fun x y => x * y) st fun st => go nx vs st M
  | .iand => b2 (fun x y => x &&& y) st fun st => go nx vs st M
  | .ior => b2 (fun x y => x ||| y) st fun st => go nx vs st M
  | .ixor => b2 (fun x y => x ^^^ y) st fun st => go nx vs st M
  | .ishl => b2 (fun x y => x <<< (y &&& 31)) st fun st => go nx vs st M
  | .ishr => b2 (fun x y => x >>> (y &&& 31)) st fun st => go nx vs st M
  | .iushr => b2 (fun x y => (x.toUInt32 >>> (y.toUInt32 &&& Int32.toUInt32 31)).toInt32) st fun st => go nx vs st M
  | .idiv => d2 (fun x y => x / y) st fun st => go nx vs st M
  | .irem => d2 (fun x y => x - x / y * y) st fun st => go nx vs st M
  | .ineg => match st with
    | .int x :: st' => go nx vs (.int (-x) :: st') M
    | _ => none
  | .ladd => l2 (fun x y => x + y) st fun st => go nx vs st M
  | .lmul => l2 (fun x y => x * y) st fun st => go nx vs st M
  | .land => l2 (fun x y => x &&& y) st fun st => go nx vs st M
  | .lor => l2 (fun x y => x ||| y) st fun st => go nx vs st M
  | .lshl => h2 (fun x y => x <<< (y.toInt64 &&& 63)) st fun st => go nx vs st M
  | .lshr => h2 (fun x y => x >>> (y.toInt64 &&& 63)) st fun st => go nx vs st M
  | .lushr => h2 (fun x y => (x.toUInt64 >>> (y.toInt64.toUInt64 &&& Int64.toUInt64 63)).toInt64) st fun st => go nx vs st M
  | .lcmp => match st with
    | .long y :: .long x :: st' => go nx vs (.int (lg_cmp x y) :: st') M
    | _ => none
  | .i2l => match st with
    | .int x :: st' => go nx vs (.long x.toInt64 :: st') M
    | _ => none
  | .l2i => match st with
    | .long x :: st' => go nx vs (.int x.toInt32 :: st') M
    | _ => none
  | .i2c => match st with
    | .int x :: st' => go nx vs (.int (x.toUInt32 % 65536).toInt32 :: st') M
    | _ => none
  | .dup => match st with
    | v :: st' => if v.category = 1 then go nx vs (v :: v :: st') M else none
    | _ => none
  | .pop => match st with
    | v :: st' => if v.category = 1 then go nx vs st' M else none
    | _ => none
  | .dup2 => match st with
    | v :: w :: st' => if v.category = 1 ∧ w.category = 1 then go nx vs (v :: w :: v :: w :: st') M else none
    | _ => none
  | .ifCond c _ => match st with
    | .int x :: st' => match c with
      | .eq => if x = 0 then go tg vs st' M else go nx vs st' M
      | .ne => if x = 0 then go nx vs st' M else go tg vs st' M
      | .lt => if x < 0 then go tg vs st' M else go nx vs st' M
      | .ge => if 0 ≤ x then go tg vs st' M else go nx vs st' M
      | .gt => if 0 < x then go tg vs st' M else go nx vs st' M
      | .le => if x ≤ 0 then go tg vs st' M else go nx vs st' M
    | _ => none
  | .if_icmp c _ => match st with
    | .int y :: .int x :: st' => match c with
      | .eq => if x = y then go tg vs st' M else go nx vs st' M
      | .ne => if x = y then go nx vs st' M else go tg vs st' M
      | .lt => if x < y then go tg vs st' M else go nx vs st' M
      | .ge => if y ≤ x then go tg vs st' M else go nx vs st' M
      | .gt => if y < x then go tg vs st' M else go nx vs st' M
      | .le => if x ≤ y then go tg vs st' M else go nx vs st' M
    | _ => none
  | .if_acmp c _ => match c, st with
    | .eq, .ref y :: .ref x :: st' => if x = y then go tg vs st' M else go nx vs st' M
    | .eq, .ref _ :: .null :: st' => go nx vs st' M
    | _, _ => none
  | .goto _ => go tg vs st M
  | .tableswitch _ _ _ _ => match st with
    | .int x :: st' => (sw pc).bind fun q => swk q.1 q.2 x fun t => go t vs st' M
    | _ => none
  | .lookupswitch _ _ => match st with
    | .int x :: st' => (sw pc).bind fun q => swk q.1 q.2 x fun t => go t vs st' M
    | _ => none
  | .getfield k => match st with
    | .ref a :: st' => (C.2.2.1 k).bind fun q => gfk q.2.2 M a q.1 q.2.1 fun v => go nx vs (v :: st') M
    | _ => none
  | .putfield k => match st with
    | v :: .ref a :: st' => (C.2.2.1 k).bind fun q => pfk md q.2.2 M a q.1 q.2.1 v fun M' => go nx vs st' M'
    | _ => none
  | .iaload => match st with
    | .int i :: .ref a :: st' => (aI 0 M a i).bind fun x => go nx vs (.int x :: st') M
    | _ => none
  | .caload => match st with
    | .int i :: .ref a :: st' => (aI 2 M a i).bind fun x => go nx vs (.int x :: st') M
    | _ => none
  | .baload => match st with
    | .int i :: .ref a :: st' => (aI 3 M a i).bind fun x => go nx vs (.int x :: st') M
    | _ => none
  | .laload => match st with
    | .int i :: .ref a :: st' => (aJ M a i).bind fun x => go nx vs (.long x :: st') M
    | _ => none
  | .aaload => match st with
    | .int i :: .ref a :: st' => (aR M a i).bind fun x => go nx vs (.ref x :: st') M
    | _ => none
  | .iastore => match st with
    | .int x :: .int i :: .ref a :: st' => (sI 0 M a i x).bind fun M' => go nx vs st' M'
    | _ => none
  | .castore => match st with
    | .int x :: .int i :: .ref a :: st' => if md = false then (sI 2 M a i x).bind fun M' => go nx vs st' M' else none
    | _ => none
  | .bastore => match st with
    | .int x :: .int i :: .ref a :: st' => if md = false then (sI 3 M a i x).bind fun M' => go nx vs st' M' else none
    | _ => none
  | .lastore => match st with
    | .long x :: .int i :: .ref a :: st' => if md = false then (sJ M a i x).bind fun M' => go nx vs st' M' else none
    | _ => none
  | .aastore => match st with
    | .ref q :: .int i :: .ref a :: st' => (sR M a i q).bind fun M' => go nx vs st' M'
    | _ => none
  | .arraylength => match st with
    | .ref a :: st' => (aN M a).bind fun x => go nx vs (.int x :: st') M
    | _ => none
  | .new k => match th pc with
    | some e => (match st with
      | [] => kx e M
      | _ => none)
    | none => if md = true then (C.2.2.2.1 k).bind fun q => go nx vs (.ref M.length :: st) (M ++ [.inr q]) else none
  | .newarray t => match st with
    | .int n :: st' => if md = true ∧ ¬ n < 0 ∧ n.toNatClampNeg ≤ 1000000 then (match t with
      | .int => go nx vs (.ref M.length :: st') (M ++ [.inl (0, n.toNatClampNeg, .inl (fun _ => 0))])
      | .long => go nx vs (.ref M.length :: st') (M ++ [.inl (1, n.toNatClampNeg, .inr (.inl (fun _ => 0)))])
      | .char => go nx vs (.ref M.length :: st') (M ++ [.inl (2, n.toNatClampNeg, .inl (fun _ => 0))])
      | .boolean => go nx vs (.ref M.length :: st') (M ++ [.inl (3, n.toNatClampNeg, .inl (fun _ => 0))])
      | _ => none) else none
    | _ => none
  | .anewarray k => match st with
    | .int n :: st' => if md = true ∧ ¬ n < 0 ∧ n.toNatClampNeg ≤ 1000000 then (C.2.2.2.2 k).bind fun t => go nx vs (.ref M.length :: st') (M ++ [.inl (t, n.toNatClampNeg, .inr (.inr (.inr (.inr (fun _ => none)))))]) else none
    | _ => none
  | .invokestatic k => if na (3 * k) ≤ st.length ∧ ((st.drop (na (3 * k))).map Value.category).sum ≤ 8 then ca (3 * k) (st.take (na (3 * k))).reverse M (fun v M' => go nx vs (v.toList ++ st.drop (na (3 * k))) M') kx else none
  | .invokevirtual k => if na (3 * k + 1) ≤ st.length ∧ ((st.drop (na (3 * k + 1))).map Value.category).sum ≤ 8 then ca (3 * k + 1) (st.take (na (3 * k + 1))).reverse M (fun v M' => go nx vs (v.toList ++ st.drop (na (3 * k + 1))) M') kx else none
  | .invokespecial k => if na (3 * k + 2) ≤ st.length ∧ ((st.drop (na (3 * k + 2))).map Value.category).sum ≤ 8 then ca (3 * k + 2) (st.take (na (3 * k + 2))).reverse M (fun v M' => go nx vs (v.toList ++ st.drop (na (3 * k + 2))) M') kx else none
  | .ireturn => match st with
    | [.int x] => rtk rk x (kr (some (.int x)) M)
    | _ => none
  | .lreturn => match st with
    | [.long x] => if rk = 3 then kr (some (.long x)) M else none
    | _ => none
  | .areturn => match st with
    | [.ref q] => if rk = 4 then kr (some (.ref q)) M else none
    | _ => none
  | .return_ => match st with
    | [] => if rk = 5 then kr none M else none
    | _ => none
  | _ => none
abbrev cRow : Type := Nat × Instr × Nat × Nat
def lk (tb : List cRow) (pc : Nat) : Option (Instr × Nat × Nat) := match tb with
  | [] => none
  | (p, q) :: r => if Nat.beq p pc = true then some q else lk r pc
/-- from a place of the method to its ends, or to a place where the walk stops (sp): there K goes on -/
noncomputable def run (tb : List cRow) (C : cP) (md : Bool) (rk : Nat) (na : Nat → Nat) (ca : Nat → List Value → cM → (Option Value → cM → Option R) → (Nat → cM → Option R) → Option R) (th : Nat → Option Nat) (sw : Nat → Option (List (Int32 × Nat) × Nat)) (kr : Option Value → cM → Option R) (kx : Nat → cM → Option R) (sp : Nat → Bool) (K : Nat → List (Option Value) → List Value → cM → Option R) : Nat → Nat → List (Option Value) → List Value → cM → Option R := fun n =>
  Nat.rec (fun _ _ _ _ => none) (fun _ ih pc vs st M => Option.rec (motive := fun _ => Option R) none (fun q => stp C md rk na ca th sw kr kx (fun pc vs st M => Bool.rec (motive := fun _ => Option R) (ih pc vs st M) (K pc vs st M) (sp pc)) q.1 pc q.2.1 q.2.2 vs st M) (lk tb pc)) n
end
def mnI (x y : Int32) : Int32 := if y < x then y else x
def isC (M : cM) (a ci : Nat) : Bool := match M[a]? with
  | some (.inr (c, _)) => Nat.beq c ci
  | _ => false
abbrev kxN {α : Type} : Nat → cM → Option α := fun _ _ => none
abbrev kxTI : Nat → cM → Option (Nat × Int32 × cM) := fun e M => if e = 0 then none else some (e, 0, M)
abbrev kxTV : Nat → cM → Option (Nat × cM) := fun e M => if e = 0 then none else some (e, M)
