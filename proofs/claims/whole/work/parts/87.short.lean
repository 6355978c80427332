/-! SHORT STEPS ON INTS, AND THE ABSTRACT ATOMS -/
theorem l_1 : (1 : Int32) = I ((1 : Nat) : Int) := I_lit 1
theorem l_2 : (2 : Int32) = I ((2 : Nat) : Int) := I_lit 2
theorem l_3 : (3 : Int32) = I ((3 : Nat) : Int) := I_lit 3
theorem l_4 : (4 : Int32) = I ((4 : Nat) : Int) := I_lit 4
theorem l_5 : (5 : Int32) = I ((5 : Nat) : Int) := I_lit 5
theorem l_6 : (6 : Int32) = I ((6 : Nat) : Int) := I_lit 6
theorem l_7 : (7 : Int32) = I ((7 : Nat) : Int) := I_lit 7
theorem l_8 : (8 : Int32) = I ((8 : Nat) : Int) := I_lit 8
theorem l_11 : (11 : Int32) = I ((11 : Nat) : Int) := I_lit 11
theorem l_12 : (12 : Int32) = I ((12 : Nat) : Int) := I_lit 12
theorem l_15 : (15 : Int32) = I ((15 : Nat) : Int) := I_lit 15
theorem l_16 : (16 : Int32) = I ((16 : Nat) : Int) := I_lit 16
theorem l_18 : (18 : Int32) = I ((18 : Nat) : Int) := I_lit 18
theorem l_20 : (20 : Int32) = I ((20 : Nat) : Int) := I_lit 20
theorem l_21 : (21 : Int32) = I ((21 : Nat) : Int) := I_lit 21
theorem l_29 : (29 : Int32) = I ((29 : Nat) : Int) := I_lit 29
theorem l_30 : (30 : Int32) = I ((30 : Nat) : Int) := I_lit 30
theorem l_31 : (31 : Int32) = I ((31 : Nat) : Int) := I_lit 31
theorem l_32 : (32 : Int32) = I ((32 : Nat) : Int) := I_lit 32
theorem l_33 : (33 : Int32) = I ((33 : Nat) : Int) := I_lit 33
theorem l_39 : (39 : Int32) = I ((39 : Nat) : Int) := I_lit 39
theorem l_40 : (40 : Int32) = I ((40 : Nat) : Int) := I_lit 40
theorem l_44 : (44 : Int32) = I ((44 : Nat) : Int) := I_lit 44
theorem l_45 : (45 : Int32) = I ((45 : Nat) : Int) := I_lit 45
theorem l_46 : (46 : Int32) = I ((46 : Nat) : Int) := I_lit 46
theorem l_47 : (47 : Int32) = I ((47 : Nat) : Int) := I_lit 47
theorem l_48 : (48 : Int32) = I ((48 : Nat) : Int) := I_lit 48
theorem l_53 : (53 : Int32) = I ((53 : Nat) : Int) := I_lit 53
theorem l_57 : (57 : Int32) = I ((57 : Nat) : Int) := I_lit 57
theorem l_63 : (63 : Int32) = I ((63 : Nat) : Int) := I_lit 63
theorem l_64 : (64 : Int32) = I ((64 : Nat) : Int) := I_lit 64
theorem l_65 : (65 : Int32) = I ((65 : Nat) : Int) := I_lit 65
theorem l_66 : (66 : Int32) = I ((66 : Nat) : Int) := I_lit 66
theorem l_71 : (71 : Int32) = I ((71 : Nat) : Int) := I_lit 71
theorem l_72 : (72 : Int32) = I ((72 : Nat) : Int) := I_lit 72
theorem l_75 : (75 : Int32) = I ((75 : Nat) : Int) := I_lit 75
theorem l_90 : (90 : Int32) = I ((90 : Nat) : Int) := I_lit 90
theorem l_97 : (97 : Int32) = I ((97 : Nat) : Int) := I_lit 97
theorem l_120 : (120 : Int32) = I ((120 : Nat) : Int) := I_lit 120
theorem l_122 : (122 : Int32) = I ((122 : Nat) : Int) := I_lit 122
theorem l_127 : (127 : Int32) = I ((127 : Nat) : Int) := I_lit 127
theorem l_128 : (128 : Int32) = I ((128 : Nat) : Int) := I_lit 128
theorem l_1812 : (1812 : Int32) = I ((1812 : Nat) : Int) := I_lit 1812
theorem l_3600 : (3600 : Int32) = I ((3600 : Nat) : Int) := I_lit 3600
theorem l_4000 : (4000 : Int32) = I ((4000 : Nat) : Int) := I_lit 4000
theorem l_252645135 : (252645135 : Int32) = I ((252645135 : Nat) : Int) := I_lit 252645135
theorem l_268435456 : (268435456 : Int32) = I ((268435456 : Nat) : Int) := I_lit 268435456
theorem l_858993459 : (858993459 : Int32) = I ((858993459 : Nat) : Int) := I_lit 858993459
theorem l_1431655765 : (1431655765 : Int32) = I ((1431655765 : Nat) : Int) := I_lit 1431655765
/-- not by rfl: else the kernel compares the two sides' calls -/
theorem obs {α β : Type} (a : α) (f : α → Option β) : (some a).bind f = f a := by
  rw [Option.bind_some]
theorem I_0n : (0 : Int32) = I ((0 : Nat) : Int) := rfl
theorem I_addN (a b : Nat) : I ((a : Int) + (b : Int)) = I ((a + b : Nat) : Int) := rfl
theorem I_mulN (a b : Nat) : I ((a : Int) * (b : Int)) = I ((a * b : Nat) : Int) := rfl
theorem I_subN {a b : Nat} (h : b ≤ a) : I ((a : Int) - (b : Int)) = I ((a - b : Nat) : Int) := by
  congr 1
  omega
theorem ilt_t {a b : Int} (h : a < b) (h0 : -2147483648 ≤ a) (h1 : b < 2147483648) : (I a < I b) = True := by
  rw [I_lt h0 (by omega) (by omega) h1]
  exact eq_true h
theorem ilt_f {a b : Int} (h : b ≤ a) (h0 : -2147483648 ≤ b) (h1 : a < 2147483648) : (I a < I b) = False := by
  rw [I_lt (by omega) h1 h0 (by omega)]
  exact eq_false (by omega)
theorem ile_t {a b : Int} (h : a ≤ b) (h0 : -2147483648 ≤ a) (h1 : b < 2147483648) : (I a ≤ I b) = True := by
  rw [I_le h0 (by omega) (by omega) h1]
  exact eq_true h
theorem ile_f {a b : Int} (h : b < a) (h0 : -2147483648 ≤ b) (h1 : a < 2147483648) : (I a ≤ I b) = False := by
  rw [I_le (by omega) h1 h0 (by omega)]
  exact eq_false (by omega)
theorem ieq_t {a b : Int} (h : a = b) : (I a = I b) = True := eq_true (by rw [h])
theorem ieq_f {a b : Int} (h : a ≠ b) (h0 : -2147483648 ≤ a) (h1 : a < 2147483648) (h2 : -2147483648 ≤ b) (h3 : b < 2147483648) : (I a = I b) = False := by
  rw [I_eq h0 h1 h2 h3]
  exact eq_false h
theorem I_shlN {a k : Nat} (hk : k < 32) : I (a : Int) <<< I ((k &&& 31 : Nat) : Int) = I ((a <<< k : Nat) : Int) := by
  rw [← I_and]
  exact I_shl hk
theorem I_shrN {a k : Nat} (ha : a < 2147483648) (hk : k < 32) : I (a : Int) >>> I ((k &&& 31 : Nat) : Int) = I ((a >>> k : Nat) : Int) := by
  rw [← I_and]
  exact I_shr ha hk
theorem I_divN {a b : Nat} (ha : a < 2147483648) (hb : b < 2147483648) : I (a : Int) / I (b : Int) = I ((a / b : Nat) : Int) := I_div ha hb
theorem I_remN {a b : Nat} : I ((a : Int) - ((a / b * b : Nat) : Int)) = I ((a % b : Nat) : Int) := by
  congr 1
  have h := Nat.div_add_mod a b
  rw [Nat.mul_comm] at h
  omega
theorem dzI {R : Type} {n : Int} {k : Option R} (h : n ≠ 0) (h0 : -2147483648 ≤ n) (h1 : n < 2147483648) : dz (I n) k = k := by
  unfold dz
  rw [if_neg]
  intro q
  exact h ((I_eq (b := 0) h0 h1 (by decide) (by decide)).mp q)
theorem i2cI {c : Int} (h0 : 0 ≤ c) (h1 : c < 65536) : ((I c).toUInt32 % 65536).toInt32 = I c := by
  obtain ⟨n, rfl⟩ := Int.eq_ofNat_of_zero_le h0
  have e : (I (n : Int)).toUInt32 = UInt32.ofNat n := by
    unfold I
    rw [Int32.ofInt_eq_ofNat, Int32.toUInt32_ofNat']
  have e2 : UInt32.ofNat n % 65536 = UInt32.ofNat n := by
    apply UInt32.toNat_inj.mp
    rw [UInt32.toNat_mod]
    simp
    omega
  rw [e, e2]
  unfold I
  rw [Int32.ofInt_eq_ofNat]
  rfl
theorem narI {c : Int} (h0 : 0 ≤ c) (h1 : c < 65536) : vp_nar .char (I c) = I c := nrT2 h0 h1
theorem up_self {α : Type} {f : Nat → α} {a : Nat} : up f a (f a) = f := by
  funext b
  unfold up
  by_cases h : b = a
  · rw [if_pos h, h]
  · rw [if_neg h]
theorem fa_ge {s : List Int} {i : Nat} (h : s.length ≤ i) : fa s i = 0 := by
  unfold fa
  rw [List.getD_eq_getElem?_getD, List.getElem?_eq_none h]
  rfl
theorem fa_get {s : List Int} {i : Nat} (h : i < s.length) : fa s i = s[i] := by
  unfold fa
  rw [List.getD_eq_getElem?_getD, List.getElem?_eq_getElem h]
  rfl
theorem take_fa {s : List Int} {i : Nat} (h : i < s.length) : s.take i ++ [fa s i] = s.take (i + 1) := by
  rw [List.take_succ_eq_append_getElem h, fa_get h]
theorem drop_fa {s : List Int} {i : Nat} (h : i < s.length) : s.drop i = fa s i :: s.drop (i + 1) := by
  rw [List.drop_eq_getElem_cons h, fa_get h]
abbrev Tx : Type := List Int
abbrev At : Type := List Int ⊕ Nat
/-- a sign of a CUT by its way -/
def trn (c w f : Int) : Int := if (w = 1 ∨ (w = 3 ∧ f ≠ 0)) ∧ isSml c then c - 32 else if (w = 2 ∨ (w = 3 ∧ f = 0)) ∧ isCap c then c + 32 else c
theorem trn_ok {c w f : Int} (h : okS c) : okS (trn c w f) := by
  unfold trn
  split
  · omega
  · split
    · omega
    · exact h
def pk (s : Tx) (k : Nat) : Nat := msk (fa s) k s.length
def cutF (s : Tx) (f t w : Nat) (i : Nat) : Tx := (List.range' i (t - i)).map (fun j => trn (fa s j) w (if j = f then 1 else 0))
def mkCut (a b w : Nat) (s : Tx) : Option Tx := if plc s a < 0 ∨ plc s b ≤ plc s a then none else some (cutF s (plc s a).toNat (plc s b).toNat w (plc s a).toNat)
/-- what an EACH makes at a place -/
def eachAt (s : Tx) (k p m i : Nat) : Tx := (if m ≠ 0 ∧ (bgM (pk s k)).testBit i = true ∧ (List.range i).any (bgM (pk s k)).testBit = true then [mrk m] else []) ++ (if (prt (pk s k) p).testBit i = true then [fa s i] else [])
def eachF (s : Tx) (k p m i : Nat) : Tx := (List.range' i (s.length - i)).flatMap (eachAt s k p m)
def mkEach (k p m : Nat) (s : Tx) : Option Tx := if bgM (pk s k) = 0 then none else some (eachF s k p m 0)
def pp (n w : Nat) : Nat := if n < 3600 then (if w = 1 then n / 4 / 30 else if w = 2 then n / 4 % 30 else n % 4) else (if w = 1 then (n - 3600) / 6 / 3 else if w = 2 then (n - 3600) / 6 % 3 else (n - 3600) % 6)
def mkA (a : At) (s : Tx) : Option Tx := match a with
  | .inl l => some l
  | .inr n => if n < 3600 then mkCut (pp n 1) (pp n 2) (pp n 3) s else mkEach (pp n 1) (pp n 2) (pp n 3) s
def okA (a : At) : Prop := match a with
  | .inl l => l ≠ [] ∧ l.length ≤ 4 ∧ okT l
  | .inr n => n < 3672
def cst (l : Tx) : Nat := 268435456 + (fa l 0).toNat * 2097152 + (fa l 1).toNat * 16384 + (fa l 2).toNat * 128 + (fa l 3).toNat
def cst0 (l : Tx) : Nat := if l = [] then 0 else cst l
def enc (a : At) : Nat := match a with
  | .inl l => cst l
  | .inr n => n
def spw (n : Nat) : Nat := if n < 6 then 3 + n % 3 else if n % 3 = 1 then 2 else 1
def wt (a : At) : Nat := match a with
  | .inl l => 4 + 3 * l.length
  | .inr n => if n < 3600 then 2 + spw (pp n 1) + spw (pp n 2) + (if pp n 3 = 0 then 0 else 2) else 6 + (if pp n 2 = 0 then 0 else 1) + (if pp n 3 = 0 then 0 else 1)
def kd (a : At) : Nat := match a with
  | .inl _ => 0
  | .inr n => if n < 3600 then 1 else 2
theorem cst_ex {l : Tx} (h1 : l ≠ []) (h4 : l.length ≤ 4) (ho : okT l) : ∃ a b c d : Nat, cst l = 268435456 + a * 2097152 + b * 16384 + c * 128 + d ∧ fa l 0 = a ∧ fa l 1 = b ∧ fa l 2 = c ∧ fa l 3 = d ∧ 32 ≤ a ∧ a < 128 ∧ b < 128 ∧ c < 128 ∧ d < 128 ∧ (b = 0 ∧ c = 0 ∧ d = 0 ∧ l.length = 1 ∨ 32 ≤ b ∧ c = 0 ∧ d = 0 ∧ l.length = 2 ∨ 32 ≤ b ∧ 32 ≤ c ∧ d = 0 ∧ l.length = 3 ∨ 32 ≤ b ∧ 32 ≤ c ∧ 32 ≤ d ∧ l.length = 4) := by
  have hp : 0 < l.length := List.length_pos_iff.mpr h1
  have h : ∀ i, (i < l.length ∧ 32 ≤ fa l i ∧ fa l i < 128) ∨ (l.length ≤ i ∧ fa l i = 0) := fun i => by
    by_cases hi : i < l.length
    · have := okS_bd (okT_fa ho hi)
      exact Or.inl ⟨hi, this.1, this.2⟩
    · exact Or.inr ⟨by omega, fa_ge (by omega)⟩
  refine ⟨(fa l 0).toNat, (fa l 1).toNat, (fa l 2).toNat, (fa l 3).toNat, rfl, ?_⟩
  have g0 := h 0
  have g1 := h 1
  have g2 := h 2
  have g3 := h 3
  omega
theorem and_p2 (n i : Nat) : n &&& 2 ^ i = (n.testBit i).toNat * 2 ^ i := by
  apply Nat.eq_of_testBit_eq
  intro j
  rw [Nat.testBit_and, Nat.testBit_two_pow]
  by_cases h : i = j
  · subst h
    cases hb : n.testBit i
    · simp
    · simp [Nat.testBit_two_pow]
  · cases hb : n.testBit i
    · simp [h]
    · simp [h, Nat.testBit_two_pow]
theorem and28 {n : Nat} (h : n < 268435456) : n &&& 268435456 = 0 := by
  rw [show (268435456 : Nat) = 2 ^ 28 from rfl, and_p2, Nat.testBit_lt_two_pow h]
  rfl
theorem and28' {n : Nat} (h0 : 268435456 ≤ n) (h1 : n < 536870912) : n &&& 268435456 = 268435456 := by
  rw [show (268435456 : Nat) = 2 ^ 28 from rfl, and_p2, Nat.testBit_eq_decide_div_mod_eq, decide_eq_true (by omega)]
  rfl
theorem or28 {n : Nat} (h0 : 268435456 ≤ n) (h1 : n < 536870912) : n ||| 268435456 = n := by
  apply Nat.eq_of_testBit_eq
  intro i
  rw [show (268435456 : Nat) = 2 ^ 28 from rfl, Nat.testBit_or, Nat.testBit_two_pow]
  by_cases hi : 28 = i
  · subst hi
    rw [Nat.testBit_eq_decide_div_mod_eq, decide_eq_true (by omega)]
    rfl
  · simp [hi]
theorem or_lo {y s k : Nat} (hy : y % 2 ^ (k + 7) = 0) (hs : s < 128) : y ||| (s <<< k) = y + s * 2 ^ k := by
  have e : y = 2 ^ (k + 7) * (y / 2 ^ (k + 7)) := by
    have := Nat.div_add_mod y (2 ^ (k + 7))
    omega
  have hl : s * 2 ^ k < 2 ^ (k + 7) := by
    rw [Nat.pow_add, Nat.mul_comm s]
    exact (Nat.mul_lt_mul_left (Nat.two_pow_pos k)).mpr hs
  rw [Nat.shiftLeft_eq, e, ← Nat.two_pow_add_eq_or_of_lt hl]
theorem fa_app {l : Tx} {s : Int} (i : Nat) : fa (l ++ [s]) i = if i < l.length then fa l i else if i = l.length then s else 0 := by
  by_cases h : i < l.length
  · rw [if_pos h, fa_app_lt h]
  · rw [if_neg h]
    by_cases h2 : i = l.length
    · rw [if_pos h2, h2, fa_app_eq]
    · rw [if_neg h2, fa_ge]
      rw [List.length_append, List.length_singleton]
      omega
theorem cst_eq (l : Tx) : cst l = 268435456 + (fa l 0).toNat * 2097152 + (fa l 1).toNat * 16384 + (fa l 2).toNat * 128 + (fa l 3).toNat := rfl
theorem cst_step {l : Tx} {s : Int} (h4 : l.length < 4) (ho : okT l) (hs : okS s) : (cst0 l ||| 268435456) ||| (s.toNat <<< (7 * (3 - l.length))) = cst (l ++ [s]) := by
  have hb := okS_bd hs
  have e0 := fa_app (l := l) (s := s) 0
  have e1 := fa_app (l := l) (s := s) 1
  have e2 := fa_app (l := l) (s := s) 2
  have e3 := fa_app (l := l) (s := s) 3
  have hn : l.length = 0 ∨ l.length = 1 ∨ l.length = 2 ∨ l.length = 3 := by omega
  by_cases hl : l = []
  · have hn0 : l.length = 0 := by rw [hl]; rfl
    have c0 : cst0 l = 0 := if_pos hl
    rw [c0, hn0, Nat.zero_or, show 7 * (3 - 0) = 21 by decide, or_lo (by decide) (by omega), cst_eq]
    rw [hn0] at e0 e1 e2 e3
    rw [if_neg (by decide), if_pos rfl] at e0
    rw [if_neg (by decide), if_neg (by decide)] at e1 e2 e3
    rw [e0, e1, e2, e3]
    omega
  · have c0 : cst0 l = cst l := if_neg hl
    obtain ⟨a, b, c, d, e, f0, f1, f2, f3, h0⟩ := cst_ex hl (by omega) ho
    rw [c0, e, or28 (by omega) (by omega), cst_eq]
    rcases hn with hn | hn | hn | hn
    · exact absurd (List.length_eq_zero_iff.mp hn) hl
    · rw [hn] at e0 e1 e2 e3 ⊢
      rw [if_pos (by decide)] at e0
      rw [if_neg (by decide), if_pos rfl] at e1
      rw [if_neg (by decide), if_neg (by decide)] at e2 e3
      rw [e0, e1, e2, e3, f0, show 7 * (3 - 1) = 14 by decide, or_lo (by omega) (by omega)]
      omega
    · rw [hn] at e0 e1 e2 e3 ⊢
      rw [if_pos (by decide)] at e0 e1
      rw [if_neg (by decide), if_pos rfl] at e2
      rw [if_neg (by decide), if_neg (by decide)] at e3
      rw [e0, e1, e2, e3, f0, f1, show 7 * (3 - 2) = 7 by decide, or_lo (by omega) (by omega)]
      omega
    · rw [hn] at e0 e1 e2 e3 ⊢
      rw [if_pos (by decide)] at e0 e1 e2
      rw [if_neg (by decide), if_pos rfl] at e3
      rw [e0, e1, e2, e3, f0, f1, f2, show 7 * (3 - 3) = 0 by decide, or_lo (by omega) (by omega)]
      omega
