/-! TEXTS: what a text's cells hold, and its own methods -/
def msk (f : Nat → Int) (k : Int) : Nat → Nat
  | 0 => 0
  | n + 1 => msk f k n ||| (if ofK (f n) k then 2 ^ n else 0)
theorem msk_lt (f : Nat → Int) (k : Int) : ∀ n, msk f k n < 2 ^ n
  | 0 => by unfold msk; omega
  | n + 1 => by
    have h := msk_lt f k n
    unfold msk
    apply Nat.or_lt_two_pow
    · rw [Nat.pow_succ]; omega
    · split
      · exact Nat.pow_lt_pow_right (by omega) (by omega)
      · exact Nat.two_pow_pos _
theorem msk_bit (f : Nat → Int) (k : Int) (i : Nat) : ∀ n, (msk f k n).testBit i = (decide (i < n) && decide (ofK (f i) k))
  | 0 => by unfold msk; simp
  | n + 1 => by
    unfold msk
    rw [Nat.testBit_or, msk_bit f k i n]
    by_cases h : ofK (f n) k
    · rw [if_pos h, Nat.testBit_two_pow]
      by_cases hi : n = i
      · subst hi
        simp [h]
      · have : (i < n + 1) = (i < n) := by apply propext; omega
        simp [this, hi]
    · rw [if_neg h, Nat.zero_testBit, Bool.or_false]
      by_cases hi : i = n
      · subst hi
        simp [h]
      · have : (i < n + 1) = (i < n) := by apply propext; omega
        simp [this]
theorem msk_congr {f g : Nat → Int} {k : Int} : ∀ {n}, (∀ i, i < n → f i = g i) → msk f k n = msk g k n
  | 0, _ => rfl
  | n + 1, h => by
    unfold msk
    rw [msk_congr (fun i hi => h i (by omega)), h n (by omega)]
def fa (s : List Int) : Nat → Int := fun i => s.getD i 0
theorem fa_app_lt {s : List Int} {c : Int} {i : Nat} (h : i < s.length) : fa (s ++ [c]) i = fa s i := by
  unfold fa
  simp [List.getD_eq_getElem?_getD, List.getElem?_append_left h]
theorem fa_app_eq {s : List Int} {c : Int} : fa (s ++ [c]) s.length = c := by
  unfold fa
  simp [List.getD_eq_getElem?_getD]
def okT (s : List Int) : Prop := ∀ c, c ∈ s → okS c
theorem okT_fa {s : List Int} (h : okT s) {i : Nat} (hi : i < s.length) : okS (fa s i) := by
  apply h
  unfold fa
  rw [List.getD_eq_getElem?_getD, List.getElem?_eq_getElem hi]
  exact List.getElem_mem hi
/-- the cells of a text hold s -/
def txt (v : ZText) (s : List Int) : Prop := v.2.2 = I s.length ∧ s.length ≤ 20 ∧ (∀ i, i < s.length → v.1 i = I (fa s i)) ∧ okT s ∧ ∀ k : Nat, k < 4 → v.2.1 k = I (msk (fa s) k s.length)
theorem okS_bd {c : Int} (h : okS c) : 32 ≤ c ∧ c < 128 := by omega
theorem nrT2 {c : Int} (h0 : 0 ≤ c) (h1 : c < 65536) : nrT 2 (I c) = I c := by
  obtain ⟨n, rfl⟩ := Int.eq_ofNat_of_zero_le h0
  show (I (n : Int)).toUInt32.toUInt16.toUInt32.toInt32 = _
  have e : (I (n : Int)).toUInt32 = UInt32.ofNat n := by
    unfold I
    rw [Int32.ofInt_eq_ofNat, Int32.toUInt32_ofNat']
  have e2 : (UInt32.ofNat n).toUInt16.toUInt32 = UInt32.ofNat n := by
    apply UInt32.toNat_inj.mp
    simp
    omega
  rw [e, e2]
  unfold I
  rw [Int32.ofInt_eq_ofNat]
  rfl
section
variable {F : Nat}
theorem x_add30 {a : Nat} (hT : isText a) {c : Int} (hc : okS c) {n : Nat} (hn : n < 20) : ∀ (m k : Nat) (tx : Nat → ZText) pg le ln tk bd vi va vl vj la me, k ≤ 4 → 5 - k ≤ m → (tx a).2.2 = I n → (∀ j, j < 4 → ∃ b : Nat, (tx a).2.1 j = I b) → f_X10_add_30 F m a (I c) (I k) (mk (tx, pg, le, ln, tk, bd, vi, va, vl, vj, la, me)) = some (I 1, mk ((up tx a ((tx a).1, (fun j => if k ≤ j ∧ j < 4 ∧ ofK c j then (tx a).2.1 j ||| I ((2 ^ n : Nat) : Int) else (tx a).2.1 j), I (n + 1))), pg, le, ln, tk, bd, vi, va, vl, vj, la, me)) := by
  intro m
  induction m with
  | zero => intro k; intros; omega
  | succ m ih =>
    intro k tx pg le ln tk bd vi va vl vj la me hk hm hsz hb
    show b_X10_add_30 F (f_X10_add_30 F m) a (I c) (I k) (mk (tx, pg, le, ln, tk, bd, vi, va, vl, vj, la, me)) = _
    unfold b_X10_add_30
    have e4 : ((4 : Int32) ≤ I k) = ((4 : Int) ≤ k) := I_le (a := 4) (by decide) (by decide) (by omega) (by omega)
    by_cases h4 : (4 : Int) ≤ k
    · rw [if_pos (e4 ▸ h4), gText_size hT, Option.bind_some, hsz, show I n + 1 = I (n + 1) from I_add n 1, pText_size hT, Option.bind_some]
      congr 3
      have : (fun j => if k ≤ j ∧ j < 4 ∧ ofK c j then (tx a).2.1 j ||| I ((2 ^ n : Nat) : Int) else (tx a).2.1 j) = (tx a).2.1 := by
        funext j
        rw [if_neg (by omega)]
      rw [this]
    · have hb0 := okS_bd hc
      rw [if_neg (e4 ▸ h4), x_isOf (by omega) (by omega) (by omega) (by omega), Option.bind_some]
      dsimp only
      by_cases ho : ofK c k
      · rw [if_pos ho, if_neg I10', gText_placesOf hT, Option.bind_some, rText_placesOf hT (by omega) (by omega), Option.bind_some, gText_size hT, Option.bind_some, hsz, show (1 : Int32) = I ((1 : Nat) : Int) from rfl, I_shl (by omega), wText_placesOf hT (by omega) (by omega), Option.bind_some, I_add]
        rw [show ((k : Int) + ((1 : Nat) : Int)) = ((k + 1 : Nat) : Int) by omega]
        rw [ih (k + 1) _ _ _ _ _ _ _ _ _ _ _ _ (by omega) (by omega) (by rw [up_same]; exact hsz) ?_]
        · rw [up_up, up_same]
          congr 4
          apply congrArg
          dsimp only
          congr 1
          congr 1
          funext j
          unfold upd
          rw [show ((k : Int).toNat) = k by omega]
          by_cases hj : j = k
          · subst hj
            rw [if_neg (by omega), if_pos rfl, if_pos ⟨Nat.le_refl _, by omega, ho⟩, Nat.one_shiftLeft]
          · by_cases h1 : k + 1 ≤ j ∧ j < 4 ∧ ofK c j
            · rw [if_pos h1, if_neg hj, if_pos (by omega)]
            · rw [if_neg h1, if_neg hj, if_neg (by omega)]
        · intro j hj
          rw [up_same]
          dsimp only
          unfold upd
          by_cases hjk : j = (k : Int).toNat
          · rw [if_pos hjk]
            obtain ⟨b, hb1⟩ := hb k (by omega)
            rw [show ((k : Int).toNat) = k by omega, hb1, I_or]
            exact ⟨_, rfl⟩
          · rw [if_neg hjk]
            exact hb j hj
      · rw [if_neg ho, if_pos I00, show (1 : Int32) = I ((1 : Nat) : Int) from rfl, I_add, show ((k : Int) + ((1 : Nat) : Int)) = ((k + 1 : Nat) : Int) by omega, ih (k + 1) _ _ _ _ _ _ _ _ _ _ _ _ (by omega) (by omega) hsz hb]
        congr 4
        apply congrArg
        congr 1
        congr 1
        funext j
        by_cases h1 : k + 1 ≤ j ∧ j < 4 ∧ ofK c j
        · rw [if_pos h1, if_pos (by omega)]
        · rw [if_neg h1]
          by_cases hj : j = k
          · subst hj
            rw [if_neg (fun q => ho q.2.2)]
          · rw [if_neg (by omega)]
theorem x_add {a : Nat} {tx pg le ln tk bd vi va vl vj la me} (hT : isText a) {s : List Int} (hs : txt (tx a) s) {c : Int} (hc : okS c) (hl : s.length < 20) (hF : 5 ≤ F) : ∃ v, txt v (s ++ [c]) ∧ f_X10_add F a (I c) (mk (tx, pg, le, ln, tk, bd, vi, va, vl, vj, la, me)) = some (I 1, mk ((up tx a v), pg, le, ln, tk, bd, vi, va, vl, vj, la, me)) := by
  obtain ⟨h1, h2, h3, h4, h5⟩ := hs
  have hb0 := okS_bd hc
  have e0 : (I s.length < 0) = ((s.length : Int) < 0) := I_lt (b := 0) (by omega) (by omega) (by decide) (by decide)
  have e20 : (I s.length < 20) = ((s.length : Int) < 20) := I_lt (b := 20) (by omega) (by omega) (by decide) (by decide)
  refine ⟨(upd (tx a).1 s.length (I c), (fun j => if 0 ≤ j ∧ j < 4 ∧ ofK c j then (tx a).2.1 j ||| I ((2 ^ s.length : Nat) : Int) else (tx a).2.1 j), I (s.length + 1)), ⟨?_, ?_, ?_, ?_, ?_⟩, ?_⟩
  · rw [List.length_append]
    rfl
  · rw [List.length_append]
    simp only [List.length_cons, List.length_nil]
    omega
  · intro i hi
    rw [List.length_append] at hi
    simp only [List.length_cons, List.length_nil] at hi
    dsimp only
    unfold upd
    by_cases h : i = s.length
    · rw [if_pos h, h, fa_app_eq]
    · rw [if_neg h, fa_app_lt (by omega), h3 i (by omega)]
  · intro d hd
    rcases List.mem_append.mp hd with h | h
    · exact h4 d h
    · rw [List.mem_singleton.mp h]
      exact hc
  · intro k hk
    dsimp only
    rw [List.length_append]
    show _ = I (msk (fa (s ++ [c])) k (s.length + 1))
    unfold msk
    rw [fa_app_eq, msk_congr (g := fa s) (fun i hi => fa_app_lt hi), h5 k hk]
    by_cases h : ofK c k
    · rw [if_pos ⟨by omega, hk, h⟩, if_pos h, I_or]
    · rw [if_neg (fun q => h q.2.2), if_neg h, Nat.or_zero]
  · simp only [f_X10_add, cText hT, if_true]
    unfold f_X10_add_0 b_X10_add_0
    rw [gText_size hT, Option.bind_some, h1, if_neg (e0 ▸ (by omega)), Option.bind_some, if_pos (e20 ▸ (by omega)), gText_signs hT, Option.bind_some, Option.bind_some, wText_signs hT (by omega) (by omega), Option.bind_some, nrT2 (by omega) (by omega), show (0 : Int32) = I ((0 : Nat) : Int) from rfl, x_add30 hT hc hl F 0 _ _ _ _ _ _ _ _ _ _ _ _ (by omega) (by omega) (by rw [up_same]; exact h1) (by rw [up_same]; exact fun j hj => ⟨_, h5 j hj⟩), up_up, up_same]
    rfl
theorem x_addFull {a : Nat} {tx pg le ln tk bd vi va vl vj la me} (hT : isText a) {s : List Int} (hs : txt (tx a) s) {c : Int} (hl : s.length = 20) : f_X10_add F a (I c) (mk (tx, pg, le, ln, tk, bd, vi, va, vl, vj, la, me)) = some (I 0, mk (tx, pg, le, ln, tk, bd, vi, va, vl, vj, la, me)) := by
  obtain ⟨h1, h2, h3, h4, h5⟩ := hs
  simp only [f_X10_add, cText hT, if_true]
  unfold f_X10_add_0 b_X10_add_0
  rw [gText_size hT, Option.bind_some, h1, hl]
  rfl
theorem txt_nil {v : ZText} (h : v.2.2 = I 0) (h2 : ∀ k : Nat, k < 4 → v.2.1 k = I 0) : txt v [] := ⟨h, by decide, (fun i hi => by cases hi), (fun c hc => by cases hc), fun k hk => h2 k hk⟩
theorem x_clear7 {a : Nat} (hT : isText a) : ∀ (m k : Nat) (tx : Nat → ZText) pg le ln tk bd vi va vl vj la me, k ≤ 4 → 5 - k ≤ m → f_X10_clear_7 F m a (I k) (mk (tx, pg, le, ln, tk, bd, vi, va, vl, vj, la, me)) = some (mk ((up tx a ((tx a).1, (fun j => if k ≤ j ∧ j < 4 then I 0 else (tx a).2.1 j), (tx a).2.2)), pg, le, ln, tk, bd, vi, va, vl, vj, la, me)) := by
  intro m
  induction m with
  | zero => intro k; intros; omega
  | succ m ih =>
    intro k tx pg le ln tk bd vi va vl vj la me hk hm
    show b_X10_clear_7 F (f_X10_clear_7 F m) a (I k) (mk (tx, pg, le, ln, tk, bd, vi, va, vl, vj, la, me)) = _
    unfold b_X10_clear_7
    have e4 : ((4 : Int32) ≤ I k) = ((4 : Int) ≤ k) := I_le (a := 4) (by decide) (by decide) (by omega) (by omega)
    by_cases h4 : (4 : Int) ≤ k
    · rw [if_pos (e4 ▸ h4)]
      have : (fun j => if k ≤ j ∧ j < 4 then I 0 else (tx a).2.1 j) = (tx a).2.1 := by
        funext j
        rw [if_neg (by omega)]
      rw [this]
      have : up tx a ((tx a).1, (tx a).2.1, (tx a).2.2) = tx := by
        funext b
        unfold up
        by_cases hb : b = a
        · rw [if_pos hb, hb]
        · rw [if_neg hb]
      rw [this]
    · rw [if_neg (e4 ▸ h4), gText_placesOf hT, Option.bind_some, wText_placesOf hT (by omega) (by omega), Option.bind_some, show (1 : Int32) = I ((1 : Nat) : Int) from rfl, I_add, show ((k : Int) + ((1 : Nat) : Int)) = ((k + 1 : Nat) : Int) by omega, ih (k + 1) _ _ _ _ _ _ _ _ _ _ _ _ (by omega) (by omega), up_up, up_same]
      congr 3
      dsimp only
      congr 1
      congr 1
      congr 1
      funext j
      unfold upd
      rw [show ((k : Int).toNat) = k by omega]
      by_cases hj : j = k
      · subst hj
        rw [if_neg (by omega), if_pos rfl, if_pos (by omega)]
        rfl
      · by_cases h1 : k + 1 ≤ j ∧ j < 4
        · rw [if_pos h1, if_pos (by omega)]
        · rw [if_neg h1, if_neg hj, if_neg (by omega)]
theorem x_clear {a : Nat} {tx pg le ln tk bd vi va vl vj la me} (hT : isText a) (hF : 5 ≤ F) : ∃ v, txt v [] ∧ f_X10_clear F a (mk (tx, pg, le, ln, tk, bd, vi, va, vl, vj, la, me)) = some (mk ((up tx a v), pg, le, ln, tk, bd, vi, va, vl, vj, la, me)) := by
  refine ⟨((tx a).1, (fun j => if 0 ≤ j ∧ j < 4 then I 0 else (tx a).2.1 j), I 0), txt_nil rfl (fun k hk => ?_), ?_⟩
  · dsimp only
    rw [if_pos (by omega)]
  · simp only [f_X10_clear, cText hT, if_true]
    unfold f_X10_clear_0 b_X10_clear_0
    rw [pText_size hT, Option.bind_some, show (0 : Int32) = I ((0 : Nat) : Int) from rfl, x_clear7 hT F 0 _ _ _ _ _ _ _ _ _ _ _ _ (by omega) (by omega), up_up, up_same]
    rfl
end
section
variable {F : Nat}
/-- copying: the signs from k on -/
theorem x_set36 {a b : Nat} (hT : isText a) (hU : isText b) (hab : a ≠ b) : ∀ (m k : Nat) (tx : Nat → ZText) pg le ln tk bd vi va vl vj la me, k ≤ 4 → 5 - k ≤ m → f_X10_set_36 F m a b (I k) (mk (tx, pg, le, ln, tk, bd, vi, va, vl, vj, la, me)) = some (mk ((up tx a ((tx a).1, (fun j => if k ≤ j ∧ j < 4 then (tx b).2.1 j else (tx a).2.1 j), (tx a).2.2)), pg, le, ln, tk, bd, vi, va, vl, vj, la, me)) := by
  intro m
  induction m with
  | zero => intro k; intros; omega
  | succ m ih =>
    intro k tx pg le ln tk bd vi va vl vj la me hk hm
    show b_X10_set_36 F (f_X10_set_36 F m) a b (I k) (mk (tx, pg, le, ln, tk, bd, vi, va, vl, vj, la, me)) = _
    unfold b_X10_set_36
    have e4 : ((4 : Int32) ≤ I k) = ((4 : Int) ≤ k) := I_le (a := 4) (by decide) (by decide) (by omega) (by omega)
    by_cases h4 : (4 : Int) ≤ k
    · rw [if_pos (e4 ▸ h4)]
      have : (fun j => if k ≤ j ∧ j < 4 then (tx b).2.1 j else (tx a).2.1 j) = (tx a).2.1 := by
        funext j
        rw [if_neg (by omega)]
      rw [this]
      have : up tx a ((tx a).1, (tx a).2.1, (tx a).2.2) = tx := by
        funext c
        unfold up
        by_cases hb : c = a
        · rw [if_pos hb, hb]
        · rw [if_neg hb]
      rw [this]
    · rw [if_neg (e4 ▸ h4), gText_placesOf hT, Option.bind_some, gText_placesOf hU, Option.bind_some, rText_placesOf hU (by omega) (by omega), Option.bind_some, wText_placesOf hT (by omega) (by omega), Option.bind_some, show (1 : Int32) = I ((1 : Nat) : Int) from rfl, I_add, show ((k : Int) + ((1 : Nat) : Int)) = ((k + 1 : Nat) : Int) by omega, ih (k + 1) _ _ _ _ _ _ _ _ _ _ _ _ (by omega) (by omega), up_up, up_same, up_ne (Ne.symm hab)]
      congr 3
      dsimp only
      congr 1
      congr 1
      congr 1
      funext j
      unfold upd
      rw [show ((k : Int).toNat) = k by omega]
      by_cases hj : j = k
      · subst hj
        rw [if_neg (by omega), if_pos rfl, if_pos (by omega)]
      · by_cases h1 : k + 1 ≤ j ∧ j < 4
        · rw [if_pos h1, if_pos (by omega)]
        · rw [if_neg h1, if_neg hj, if_neg (by omega)]
theorem x_set10 {a b : Nat} (hT : isText a) (hU : isText b) (hab : a ≠ b) (hF : 5 ≤ F) : ∀ (m k : Nat) (tx : Nat → ZText) pg le ln tk bd vi va vl vj la me, k ≤ 20 → 21 - k ≤ m → f_X10_set_10 F m a b (I k) (mk (tx, pg, le, ln, tk, bd, vi, va, vl, vj, la, me)) = some (mk ((up tx a ((fun j => if k ≤ j ∧ j < 20 then nrT 2 ((tx b).1 j) else (tx a).1 j), (fun j => if 0 ≤ j ∧ j < 4 then (tx b).2.1 j else (tx a).2.1 j), (tx a).2.2)), pg, le, ln, tk, bd, vi, va, vl, vj, la, me)) := by
  intro m
  induction m with
  | zero => intro k; intros; omega
  | succ m ih =>
    intro k tx pg le ln tk bd vi va vl vj la me hk hm
    show b_X10_set_10 F (f_X10_set_10 F m) (f_X10_set_36 F F) a b (I k) (mk (tx, pg, le, ln, tk, bd, vi, va, vl, vj, la, me)) = _
    unfold b_X10_set_10
    have e4 : ((20 : Int32) ≤ I k) = ((20 : Int) ≤ k) := I_le (a := 20) (by decide) (by decide) (by omega) (by omega)
    by_cases h4 : (20 : Int) ≤ k
    · rw [if_pos (e4 ▸ h4), show (0 : Int32) = I ((0 : Nat) : Int) from rfl, x_set36 hT hU hab F 0 _ _ _ _ _ _ _ _ _ _ _ _ (by omega) (by omega)]
      have : (fun j => if k ≤ j ∧ j < 20 then nrT 2 ((tx b).1 j) else (tx a).1 j) = (tx a).1 := by
        funext j
        rw [if_neg (by omega)]
      rw [this]
    · rw [if_neg (e4 ▸ h4), gText_signs hT, Option.bind_some, gText_signs hU, Option.bind_some, rText_signs hU (by omega) (by omega), Option.bind_some, wText_signs hT (by omega) (by omega), Option.bind_some, show (1 : Int32) = I ((1 : Nat) : Int) from rfl, I_add, show ((k : Int) + ((1 : Nat) : Int)) = ((k + 1 : Nat) : Int) by omega, ih (k + 1) _ _ _ _ _ _ _ _ _ _ _ _ (by omega) (by omega), up_up, up_same, up_ne (Ne.symm hab)]
      congr 3
      dsimp only
      congr 1
      congr 1
      funext j
      unfold upd
      rw [show ((k : Int).toNat) = k by omega]
      by_cases hj : j = k
      · subst hj
        rw [if_neg (by omega), if_pos rfl, if_pos (by omega)]
      · by_cases h1 : k + 1 ≤ j ∧ j < 20
        · rw [if_pos h1, if_pos (by omega)]
        · rw [if_neg h1, if_neg hj, if_neg (by omega)]
theorem x_set {a b : Nat} {tx pg le ln tk bd vi va vl vj la me} (hT : isText a) (hU : isText b) (hab : a ≠ b) {s : List Int} (hs : txt (tx b) s) (hF : 21 ≤ F) : ∃ v, txt v s ∧ f_X10_set F a b (mk (tx, pg, le, ln, tk, bd, vi, va, vl, vj, la, me)) = some (mk ((up tx a v), pg, le, ln, tk, bd, vi, va, vl, vj, la, me)) := by
  obtain ⟨h1, h2, h3, h4, h5⟩ := hs
  refine ⟨((fun j => if 0 ≤ j ∧ j < 20 then nrT 2 ((tx b).1 j) else (tx a).1 j), (fun j => if 0 ≤ j ∧ j < 4 then (tx b).2.1 j else (tx a).2.1 j), (tx b).2.2), ⟨h1, h2, ?_, h4, ?_⟩, ?_⟩
  · intro i hi
    dsimp only
    have := okS_bd (okT_fa h4 hi)
    rw [if_pos (by omega), h3 i hi, nrT2 (by omega) (by omega)]
  · intro k hk
    dsimp only
    rw [if_pos (by omega), h5 k hk]
  · simp only [f_X10_set, cText hT, if_true]
    unfold f_X10_set_0 b_X10_set_0
    rw [gText_size hU, Option.bind_some, pText_size hT, Option.bind_some, show (0 : Int32) = I ((0 : Nat) : Int) from rfl, x_set10 hT hU hab (by omega) F 0 _ _ _ _ _ _ _ _ _ _ _ _ (by omega) (by omega), up_up, up_same, up_ne (Ne.symm hab)]
/-- a sign of a text -/
theorem x_at {a : Nat} {tx pg le ln tk bd vi va vl vj la me} (hT : isText a) {s : List Int} (hs : txt (tx a) s) {i : Int} (i0 : -2147483648 ≤ i) (i1 : i < 2147483648) : f_X10_at F a (I i) (mk (tx, pg, le, ln, tk, bd, vi, va, vl, vj, la, me)) = some (if 0 ≤ i ∧ i < s.length then I (fa s i.toNat) else I 0, mk (tx, pg, le, ln, tk, bd, vi, va, vl, vj, la, me)) := by
  obtain ⟨h1, h2, h3, h4, h5⟩ := hs
  have e0 : (I i < 0) = (i < 0) := I_lt (b := 0) i0 i1 (by decide) (by decide)
  have e1 : (I s.length ≤ I i) = ((s.length : Int) ≤ i) := I_le (by omega) (by omega) i0 i1
  have e2 : ((20 : Int32) ≤ I i) = ((20 : Int) ≤ i) := I_le (a := 20) (by decide) (by decide) i0 i1
  simp only [f_X10_at, cText hT, if_true]
  unfold f_X10_at_0 b_X10_at_0
  by_cases a0 : i < 0
  · rw [if_pos (e0 ▸ a0), if_neg (by omega)]
    rfl
  · rw [if_neg (e0 ▸ a0), gText_size hT, Option.bind_some, h1]
    by_cases b0 : (s.length : Int) ≤ i
    · rw [if_pos (e1 ▸ b0), if_neg (by omega)]
      rfl
    · have hb := okS_bd (okT_fa h4 (show i.toNat < s.length by omega))
      rw [if_neg (e1 ▸ b0), if_neg (e2 ▸ (show ¬ (20 : Int) ≤ i by omega)), gText_signs hT, Option.bind_some, rText_signs hT (by omega) (by omega), Option.bind_some, h3 _ (by omega), if_pos (show 0 ≤ i ∧ i < s.length by omega)]
      rw [if_pos]
      exact nrT2 (c := fa s i.toNat) (by omega) (by omega)
end
