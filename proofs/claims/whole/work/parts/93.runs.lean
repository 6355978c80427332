/-! RUNS OF A CLASS: BEGINS AND ENDS, COUNTED -/
theorem cntB_succ (m d : Nat) : cntB m (d + 1) = cntB m d + (m.testBit d).toNat := rfl
theorem cntB_mono {m a b : Nat} (h : a ≤ b) : cntB m a ≤ cntB m b := by
  induction b with
  | zero => rw [show a = 0 by omega]; exact Nat.le_refl _
  | succ b ih =>
    by_cases g : a = b + 1
    · rw [g]; exact Nat.le_refl _
    · rw [cntB_succ]
      have := ih (by omega)
      omega
theorem cntB_lt {m a b : Nat} (h : a < b) (ha : m.testBit a = true) : cntB m a < cntB m b := by
  have h1 := cntB_mono (m := m) (show a + 1 ≤ b by omega)
  rw [cntB_succ, ha] at h1
  exact h1
theorem cntB_inj {m a b : Nat} (ha : m.testBit a = true) (hb : m.testBit b = true) (h : cntB m a = cntB m b) : a = b := by
  rcases Nat.lt_trichotomy a b with g | g | g
  · have := cntB_lt g ha; omega
  · exact g
  · have := cntB_lt g hb; omega
theorem filt_cnt (m : Nat) : ∀ d, ((List.range' 0 d).filter (fun j => m.testBit j)).length = cntB m d := by
  intro d
  induction d with
  | zero => rfl
  | succ d ih =>
    rw [List.range'_concat, List.filter_append, List.length_append, ih, cntB_succ]
    congr 1
    cases hb : m.testBit d <;> simp [hb]
theorem bl_nth {m i : Nat} (h : m.testBit i = true) (hi : i < 20) : (bl m 0)[cntB m i]? = some i := by
  have e : List.range' 0 20 = List.range' 0 i ++ (i :: List.range' (i + 1) (19 - i)) := by
    rw [← List.range'_succ, show 19 - i + 1 = 20 - i by omega]
    have := List.range'_append (s := 0) (m := i) (n := 20 - i) (step := 1)
    rw [Nat.zero_add, Nat.one_mul, show i + (20 - i) = 20 by omega] at this
    exact this.symm
  unfold bl
  show ((List.range' 0 20).filter fun j => m.testBit j)[cntB m i]? = some i
  rw [e, List.filter_append, List.getElem?_append_right (by rw [filt_cnt]; exact Nat.le_refl _), filt_cnt, Nat.sub_self, List.filter_cons_of_pos h]
  rfl
theorem bl_get {m r x : Nat} (h : (bl m 0)[r]? = some x) : m.testBit x = true ∧ x < 20 ∧ cntB m x = r := by
  obtain ⟨h1, h2⟩ := bl_mem (List.mem_of_getElem? h)
  refine ⟨h2, h1, ?_⟩
  have h3 := bl_nth h2 h1
  obtain ⟨hr, e1⟩ := List.getElem?_eq_some_iff.mp h
  obtain ⟨hc, e2⟩ := List.getElem?_eq_some_iff.mp h3
  have hp : (bl m 0).Pairwise (· < ·) := (range_lt 20 0).filter _
  rw [List.pairwise_iff_getElem] at hp
  rcases Nat.lt_trichotomy (cntB m x) r with g | g | g
  · have := hp _ _ hc hr g
    omega
  · exact g
  · have := hp _ _ hr hc g
    omega
/-- begins and ends: as many ends are behind a place as begins, but for a run that is open there -/
theorem bg_en (m : Nat) : ∀ i, cntB (bgM m) i = cntB (enM m) i + (if 1 ≤ i ∧ m.testBit (i - 1) = true ∧ m.testBit i = true then 1 else 0) := by
  intro i
  induction i with
  | zero => rfl
  | succ i ih =>
    rw [cntB_succ, cntB_succ, ih, bgM_bit, enM_bit, Nat.add_sub_cancel]
    cases h1 : m.testBit i
    · simp [h1]
    · cases h2 : m.testBit (i + 1)
      · by_cases h0 : 1 ≤ i ∧ m.testBit (i - 1) = true
        · simp [h0, h1, h2]
        · rw [if_neg (fun q => h0 ⟨q.1, q.2.1⟩)]
          have : (!(decide (1 ≤ i) && m.testBit (i - 1))) = true := by
            rw [Bool.not_eq_true', Bool.and_eq_false_iff]
            by_cases h5 : 1 ≤ i
            · exact Or.inr (by simpa [h5] using h0)
            · exact Or.inl (by simp [h5])
          rw [this]
          simp [h2]
      · by_cases h0 : 1 ≤ i ∧ m.testBit (i - 1) = true
        · simp [h0, h1, h2]
        · rw [if_neg (fun q => h0 ⟨q.1, q.2.1⟩)]
          have : (!(decide (1 ≤ i) && m.testBit (i - 1))) = true := by
            rw [Bool.not_eq_true', Bool.and_eq_false_iff]
            by_cases h5 : 1 ≤ i
            · exact Or.inr (by simpa [h5] using h0)
            · exact Or.inl (by simp [h5])
          rw [this]
          simp [h1, h2]
theorem bg_en_end {m n : Nat} (h : m < 2 ^ n) : cntB (bgM m) n = cntB (enM m) n := by
  rw [bg_en, if_neg, Nat.add_zero]
  intro q
  have := bit_lt h q.2.2
  omega
theorem bg_en_bg {m i : Nat} (h : (bgM m).testBit i = true) : cntB (enM m) i = cntB (bgM m) i := by
  rw [bg_en, if_neg, Nat.add_zero]
  intro q
  rw [bgM_bit, q.2.1] at h
  simp [q.1] at h
/-- the run whose begin is the r-th one, and its end -/
theorem run_ex {m n r : Nat} (hm : m < 2 ^ n) (hn : n ≤ 20) (hr : r < cntB (enM m) n) : ∃ b e, (bgM m).testBit b = true ∧ (enM m).testBit e = true ∧ cntB (bgM m) b = r ∧ cntB (enM m) e = r ∧ b ≤ e ∧ e < n ∧ (∀ j, b ≤ j → j ≤ e → m.testBit j = true) ∧ (∀ j, b < j → j ≤ e → (bgM m).testBit j = false) ∧ (∀ j, b ≤ j → j < e → (enM m).testBit j = false) := by
  have pick : ∀ (q d : Nat), r < cntB q d → ∃ x, x < d ∧ q.testBit x = true ∧ cntB q x = r := by
    intro q d
    induction d with
    | zero => intro h; exact absurd h (Nat.not_lt_zero _)
    | succ d ih =>
      intro h
      by_cases g : r < cntB q d
      · obtain ⟨x, h1, h2, h3⟩ := ih g
        exact ⟨x, by omega, h2, h3⟩
      · rw [cntB_succ] at h
        cases hb : q.testBit d
        · rw [hb] at h
          exact absurd h g
        · rw [hb] at h
          have : (true : Bool).toNat = 1 := rfl
          exact ⟨d, by omega, hb, by omega⟩
  obtain ⟨b, b1, b2, b3⟩ := pick (bgM m) n (by rw [bg_en_end hm]; exact hr)
  obtain ⟨e, e1, e2, e3⟩ := pick (enM m) n hr
  have hbe : b ≤ e := by
    by_cases g : b ≤ e
    · exact g
    · have h1 := cntB_lt (show e < b by omega) e2
      have h2 := bg_en_bg b2
      omega
  have hall : ∀ d, b + d ≤ e → m.testBit (b + d) = true := by
    intro d
    induction d with
    | zero =>
      intro _
      rw [bgM_bit] at b2
      simp at b2
      exact b2.1
    | succ d ih =>
      intro h
      have h1 := ih (by omega)
      cases h2 : m.testBit (b + (d + 1))
      · have h3 : (enM m).testBit (b + d) = true := by
          rw [enM_bit, h1, show b + d + 1 = b + (d + 1) by omega, h2]
          rfl
        have h4 := cntB_lt (show b + d < e by omega) h3
        have h5 := cntB_mono (m := enM m) (show b ≤ b + d by omega)
        have h6 := bg_en_bg b2
        omega
      · rfl
  have hall2 : ∀ j, b ≤ j → j ≤ e → m.testBit j = true := fun j h1 h2 => by
    have := hall (j - b) (by omega)
    rwa [show b + (j - b) = j by omega] at this
  refine ⟨b, e, b2, e2, b3, e3, hbe, e1, hall2, ?_, ?_⟩
  · intro j h1 h2
    rw [bgM_bit, hall2 (j - 1) (by omega) (by omega)]
    simp
    intro _
    omega
  · intro j h1 h2
    rw [enM_bit, hall2 (j + 1) (by omega) (by omega)]
    simp
/-- no sign of the class between two runs -/
theorem gap {m i b : Nat} (hi : i = 0 ∨ (1 ≤ i ∧ m.testBit i = false)) (hib : i ≤ b) (hc : cntB (bgM m) i = cntB (bgM m) b) : ∀ j, i ≤ j → j < b → m.testBit j = false := by
  have nb : ∀ j, i ≤ j → j < b → (bgM m).testBit j = false := by
    intro j h1 h2
    cases h : (bgM m).testBit j
    · rfl
    · have h3 := cntB_lt h2 h
      have h4 := cntB_mono (m := bgM m) h1
      omega
  have h : ∀ d, i + d < b → m.testBit (i + d) = false := by
    intro d
    induction d with
    | zero =>
      intro h
      rcases hi with rfl | hi
      · have := nb 0 (Nat.le_refl _) h
        rw [bgM_bit] at this
        simpa using this
      · exact hi.2
    | succ d ih =>
      intro h
      have h1 := ih (by omega)
      have h2 := nb (i + (d + 1)) (by omega) h
      rw [bgM_bit, show i + (d + 1) - 1 = i + d by omega, h1] at h2
      simpa using h2
  intro j h1 h2
  have := h (j - i) (by omega)
  rwa [show i + (j - i) = j by omega] at this
/-! WHAT AN EACH MAKES, RUN BY RUN -/
theorem eachAt_none {s : Tx} {k p z i : Nat} (h : (pk s k).testBit i = false) : eachAt s k p z i = [] := by
  have h1 : (bgM (pk s k)).testBit i = false := by rw [bgM_bit, h]; rfl
  have h2 : (enM (pk s k)).testBit i = false := by rw [enM_bit, h]; rfl
  have h3 : (prt (pk s k) p).testBit i = false := by
    unfold prt
    split
    · exact h1
    · split
      · exact h2
      · exact h
  unfold eachAt
  rw [if_neg (by rw [h1]; simp), if_neg (by rw [h3]; simp)]
  rfl
theorem eachF_skip {s : Tx} {k p z : Nat} : ∀ (d i : Nat), i + d ≤ s.length → (∀ j, i ≤ j → j < i + d → (pk s k).testBit j = false) → eachF s k p z i = eachF s k p z (i + d) := by
  intro d
  induction d with
  | zero => intros; rfl
  | succ d ih =>
    intro i hi h
    rw [eachF_step (by omega), eachAt_none (h i (Nat.le_refl _) (by omega)), List.nil_append, ih (i + 1) (by omega) (fun j h1 h2 => h j (by omega) (by omega)), show i + 1 + d = i + (d + 1) by omega]
/-- the signs from a place up to another one -/
def seg (s : Tx) (i t : Nat) : Tx := (List.range' i (t - i)).map (fa s)
theorem seg_step {s : Tx} {i t : Nat} (h : i < t) : seg s i t = fa s i :: seg s (i + 1) t := by
  unfold seg
  rw [show t - i = (t - (i + 1)) + 1 by omega, List.range'_succ, List.map_cons]
theorem seg_end {s : Tx} {i t : Nat} (h : t ≤ i) : seg s i t = [] := by
  unfold seg
  rw [show t - i = 0 by omega]
  rfl
theorem seg_len {s : Tx} {i t : Nat} : (seg s i t).length = t - i := by
  unfold seg
  rw [List.length_map, List.length_range']
def sgF (p b e : Nat) : Nat := if p = 2 then e else b
def sgT (p b e : Nat) : Nat := if p = 1 then b + 1 else e + 1
theorem eachAt_in {s : Tx} {k p z i : Nat} (hb : (bgM (pk s k)).testBit i = false) : eachAt s k p z i = if (prt (pk s k) p).testBit i = true then [fa s i] else [] := by
  unfold eachAt
  rw [if_neg (by rw [hb]; simp), List.nil_append]
/-- behind the begin of a run, up to its end -/
theorem eachF_in {s : Tx} {k p z b e : Nat} (he : e < s.length) (hp : p < 3) (hall : ∀ j, b ≤ j → j ≤ e → (pk s k).testBit j = true) (hb : ∀ j, b < j → j ≤ e → (bgM (pk s k)).testBit j = false) (hn : ∀ j, b ≤ j → j < e → (enM (pk s k)).testBit j = false) (hee : (enM (pk s k)).testBit e = true) : ∀ (d i : Nat), i + d = e + 1 → b < i → eachF s k p z i = seg s (if p = 1 then e + 1 else if p = 2 then max e i else i) (e + 1) ++ eachF s k p z (e + 1) := by
  intro d
  induction d with
  | zero =>
    intro i h1 h2
    rw [seg_end (by split; omega; split <;> omega), show i = e + 1 by omega]
    rfl
  | succ d ih =>
    intro i h1 h2
    rw [eachF_step (by omega), eachAt_in (hb i h2 (by omega)), ih (i + 1) (by omega) (by omega)]
    have hp3 : p = 0 ∨ p = 1 ∨ p = 2 := by omega
    rcases hp3 with rfl | rfl | rfl
    · have e1 : (prt (pk s k) ((0 : Nat) : Int)).testBit i = true := hall i (by omega) (by omega)
      rw [if_pos e1]
      show [fa s i] ++ (seg s (i + 1) (e + 1) ++ eachF s k 0 z (e + 1)) = seg s i (e + 1) ++ eachF s k 0 z (e + 1)
      rw [seg_step (show i < e + 1 by omega)]
      rfl
    · have e1 : (prt (pk s k) ((1 : Nat) : Int)).testBit i = false := hb i h2 (by omega)
      rw [if_neg (by rw [e1]; simp)]
      rfl
    · by_cases g : i = e
      · have e1 : (prt (pk s k) ((2 : Nat) : Int)).testBit i = true := by rw [g]; exact hee
        rw [if_pos e1]
        show [fa s i] ++ (seg s (max e (i + 1)) (e + 1) ++ eachF s k 2 z (e + 1)) = seg s (max e i) (e + 1) ++ eachF s k 2 z (e + 1)
        rw [seg_end (show e + 1 ≤ max e (i + 1) by omega), show max e i = i by omega, seg_step (show i < e + 1 by omega), seg_end (by omega)]
        rfl
      · have e1 : (prt (pk s k) ((2 : Nat) : Int)).testBit i = false := hn i (by omega) (by omega)
        rw [if_neg (by rw [e1]; simp)]
        show [] ++ (seg s (max e (i + 1)) (e + 1) ++ eachF s k 2 z (e + 1)) = seg s (max e i) (e + 1) ++ eachF s k 2 z (e + 1)
        rw [show max e (i + 1) = max e i by omega]
        rfl
/-- a run: its mark, its signs, and what is behind it -/
theorem eachF_run {s : Tx} {k p z b e : Nat} (he : e < s.length) (hbe : b ≤ e) (hp : p < 3) (hall : ∀ j, b ≤ j → j ≤ e → (pk s k).testBit j = true) (hb : ∀ j, b < j → j ≤ e → (bgM (pk s k)).testBit j = false) (hn : ∀ j, b ≤ j → j < e → (enM (pk s k)).testBit j = false) (hee : (enM (pk s k)).testBit e = true) (hbb : (bgM (pk s k)).testBit b = true) : eachF s k p z b = (if z ≠ 0 ∧ cntB (bgM (pk s k)) b ≠ 0 then [mrk z] else []) ++ seg s (sgF p b e) (sgT p b e) ++ eachF s k p z (e + 1) := by
  rw [eachF_step (by omega), eachF_in he hp hall hb hn hee (e - b) (b + 1) (by omega) (by omega)]
  have hany : ((List.range b).any (bgM (pk s k)).testBit = true) ↔ cntB (bgM (pk s k)) b ≠ 0 := by
    rw [List.any_eq_true]
    constructor
    · rintro ⟨j, hj, h⟩
      have := cntB_lt (List.mem_range.mp hj) h
      omega
    · intro h
      have : ∀ d, cntB (bgM (pk s k)) d ≠ 0 → ∃ j, j < d ∧ (bgM (pk s k)).testBit j = true := by
        intro d
        induction d with
        | zero => intro q; exact absurd rfl q
        | succ d ih =>
          intro q
          cases hd : (bgM (pk s k)).testBit d
          · rw [cntB_succ, hd] at q
            obtain ⟨j, h1, h2⟩ := ih q
            exact ⟨j, by omega, h2⟩
          · exact ⟨d, by omega, hd⟩
      obtain ⟨j, h1, h2⟩ := this b h
      exact ⟨j, List.mem_range.mpr h1, h2⟩
  have hmark : (if z ≠ 0 ∧ (bgM (pk s k)).testBit b = true ∧ (List.range b).any (bgM (pk s k)).testBit = true then [mrk z] else []) = if z ≠ 0 ∧ cntB (bgM (pk s k)) b ≠ 0 then [mrk z] else [] := by
    by_cases g : z ≠ 0 ∧ cntB (bgM (pk s k)) b ≠ 0
    · rw [if_pos g, if_pos ⟨g.1, hbb, hany.mpr g.2⟩]
    · rw [if_neg g, if_neg (fun q => g ⟨q.1, hany.mp q.2.2⟩)]
  unfold eachAt
  rw [hmark]
  have hp3 : p = 0 ∨ p = 1 ∨ p = 2 := by omega
  rcases hp3 with rfl | rfl | rfl
  · have e1 : (prt (pk s k) ((0 : Nat) : Int)).testBit b = true := hall b (Nat.le_refl _) hbe
    rw [if_pos e1]
    show _ ++ [fa s b] ++ (seg s (b + 1) (e + 1) ++ eachF s k 0 z (e + 1)) = _ ++ seg s b (e + 1) ++ eachF s k 0 z (e + 1)
    rw [seg_step (show b < e + 1 by omega)]
    simp only [List.append_assoc, List.cons_append, List.nil_append]
  · have e1 : (prt (pk s k) ((1 : Nat) : Int)).testBit b = true := hbb
    rw [if_pos e1]
    show _ ++ [fa s b] ++ (seg s (e + 1) (e + 1) ++ eachF s k 1 z (e + 1)) = _ ++ seg s b (b + 1) ++ eachF s k 1 z (e + 1)
    rw [seg_end (Nat.le_refl (e + 1)), seg_step (show b < b + 1 by omega), seg_end (Nat.le_refl (b + 1))]
    rfl
  · by_cases g : b = e
    · have e1 : (prt (pk s k) ((2 : Nat) : Int)).testBit b = true := by rw [g]; exact hee
      rw [if_pos e1]
      show _ ++ [fa s b] ++ (seg s (max e (b + 1)) (e + 1) ++ eachF s k 2 z (e + 1)) = _ ++ seg s e (e + 1) ++ eachF s k 2 z (e + 1)
      rw [seg_end (show e + 1 ≤ max e (b + 1) by omega), ← g, seg_step (show b < b + 1 by omega), seg_end (Nat.le_refl (b + 1))]
      rfl
    · have e1 : (prt (pk s k) ((2 : Nat) : Int)).testBit b = false := hn b (Nat.le_refl _) (by omega)
      rw [if_neg (show ¬ (prt (pk s k) ((2 : Nat) : Int)).testBit b = true by rw [e1]; simp)]
      show _ ++ [] ++ (seg s (max e (b + 1)) (e + 1) ++ eachF s k 2 z (e + 1)) = _ ++ seg s e (e + 1) ++ eachF s k 2 z (e + 1)
      rw [show max e (b + 1) = e by omega]
      simp only [List.append_assoc, List.append_nil, List.nil_append]
theorem eachF_len {s : Tx} {k p z : Nat} : ∀ (d i : Nat), i + d = s.length → (eachF s k p z i).length ≤ d + (if (bgM (pk s k)).testBit i = true ∧ (List.range i).any (bgM (pk s k)).testBit = true then 1 else 0) := by
  intro d
  induction d with
  | zero =>
    intro i h
    rw [eachF_end (by omega)]
    exact Nat.zero_le _
  | succ d ih =>
    intro i h
    rw [eachF_step (by omega), List.length_append]
    have h1 := ih (i + 1) (by omega)
    cases hb : (pk s k).testBit i
    · rw [eachAt_none hb]
      have : (if (bgM (pk s k)).testBit (i + 1) = true ∧ (List.range (i + 1)).any (bgM (pk s k)).testBit = true then 1 else 0) ≤ 1 := by split <;> omega
      simp only [List.length_nil]
      omega
    · have h2 : (bgM (pk s k)).testBit (i + 1) = false := by
        rw [bgM_bit, Nat.add_sub_cancel, hb]
        simp
      rw [if_neg (by rw [h2]; simp)] at h1
      have h3 : (eachAt s k p z i).length ≤ 1 + (if (bgM (pk s k)).testBit i = true ∧ (List.range i).any (bgM (pk s k)).testBit = true then 1 else 0) := by
        unfold eachAt
        rw [List.length_append]
        have a1 : (if (prt (pk s k) p).testBit i = true then [fa s i] else []).length ≤ 1 := by split <;> simp
        have a2 : (if z ≠ 0 ∧ (bgM (pk s k)).testBit i = true ∧ (List.range i).any (bgM (pk s k)).testBit = true then [mrk z] else []).length ≤ (if (bgM (pk s k)).testBit i = true ∧ (List.range i).any (bgM (pk s k)).testBit = true then 1 else 0) := by
          by_cases g : (bgM (pk s k)).testBit i = true ∧ (List.range i).any (bgM (pk s k)).testBit = true
          · rw [if_pos g]
            split <;> simp
          · rw [if_neg g, if_neg (fun q => g q.2)]
            simp
        omega
      omega
theorem each_len {s : Tx} {k p z : Nat} : (eachF s k p z 0).length ≤ s.length := by
  have := eachF_len (s := s) (k := k) (p := p) (z := z) s.length 0 (by omega)
  rw [if_neg (by simp)] at this
  omega
