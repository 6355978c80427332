/-! CODES OF PLACES -/
def tln (a : At) (m : Tx × Tx) : Nat := match mkA a m.1 with
  | some t => t.length
  | none => 0
theorem stp_bit {a : At} {m : Tx × Tx} (ha : okA a) (h1 : m.1.length ≤ 20) (h2 : m.2.length ≤ 20) (p : Nat) : stpA a m p = if (mtc a m).testBit p = true then some (p + tln a m) else none := by
  unfold stpA mtc tln
  cases h : mkA a m.1 with
  | none => simp
  | some t =>
    have hp := mkA_pos ha h1 h
    rw [Option.bind_some]
    dsimp only
    rw [occ_bit]
    by_cases c : p + t.length ≤ m.2.length ∧ (m.2.drop p).take t.length = t
    · rw [if_pos c, if_pos]
      unfold stands
      rw [decide_eq_true c, decide_eq_true (show p < 20 by omega)]
      rfl
    · rw [if_neg c, if_neg]
      unfold stands
      rw [decide_eq_false c, Bool.and_false]
      decide
theorem mtc_in {a : At} {m : Tx × Tx} {p : Nat} (h : (mtc a m).testBit p = true) : p + tln a m ≤ m.2.length := by
  unfold mtc at h
  unfold tln
  cases e : mkA a m.1 with
  | none => rw [e] at h; simp at h
  | some t =>
    rw [e] at h
    dsimp only at h ⊢
    rw [occ_bit, Bool.and_eq_true] at h
    have := h.2
    unfold stands at this
    exact (of_decide_eq_true this).1
def cdeF (ms : List (Tx × Tx)) (q : Nat → Nat) : Nat → Nat
  | 0 => 0
  | i + 1 => cdeF ms q i + q i * stoR ms i
def cd (ms : List (Tx × Tx)) (ps : List Nat) : Nat := cdeF ms (gn ps) ms.length
theorem cdeF_lt {ms : List (Tx × Tx)} {q : Nat → Nat} : ∀ j, (∀ i, i < j → q i ≤ (gm ms i).2.length) → cdeF ms q j < stoR ms j
  | 0, _ => Nat.one_pos
  | j + 1, h => by
    have ih := cdeF_lt j (fun i hi => h i (by omega))
    show cdeF ms q j + q j * stoR ms j < stoR ms j * ((gm ms j).2.length + 1)
    have hm : q j * stoR ms j ≤ (gm ms j).2.length * stoR ms j := Nat.mul_le_mul_right _ (h j (Nat.lt_succ_self j))
    rw [Nat.mul_succ, Nat.mul_comm (stoR ms j)]
    omega
theorem cdeF_congr {ms : List (Tx × Tx)} {q q' : Nat → Nat} : ∀ j, (∀ i, i < j → q i = q' i) → cdeF ms q j = cdeF ms q' j
  | 0, _ => rfl
  | j + 1, h => by
    show cdeF ms q j + q j * stoR ms j = cdeF ms q' j + q' j * stoR ms j
    rw [cdeF_congr j (fun i hi => h i (by omega)), h j (Nat.lt_succ_self j)]
theorem stoR_dvd {ms : List (Tx × Tx)} {i : Nat} : ∀ d, ∃ x, stoR ms (i + 1 + d) = stoR ms i * ((gm ms i).2.length + 1) * x
  | 0 => ⟨1, by rw [Nat.mul_one]; rfl⟩
  | d + 1 => by
    obtain ⟨x, e⟩ := stoR_dvd (i := i) d
    refine ⟨x * ((gm ms (i + 1 + d)).2.length + 1), ?_⟩
    show stoR ms (i + 1 + d) * _ = _
    rw [e, Nat.mul_assoc]
    rfl
def digR (ms : List (Tx × Tx)) (c i : Nat) : Nat := c / stoR ms i % ((gm ms i).2.length + 1)
theorem cdeF_dig {ms : List (Tx × Tx)} {q : Nat → Nat} {i : Nat} : ∀ d, (∀ j, j < i + 1 + d → q j ≤ (gm ms j).2.length) → digR ms (cdeF ms q (i + 1 + d)) i = q i
  | 0, h => by
    show (cdeF ms q i + q i * stoR ms i) / stoR ms i % _ = q i
    have hlt := cdeF_lt i (fun j hj => h j (by omega))
    rw [Nat.add_mul_div_right _ _ (stoR_pos i), Nat.div_eq_of_lt hlt, Nat.zero_add]
    exact Nat.mod_eq_of_lt (by have := h i (by omega); omega)
  | d + 1, h => by
    have ih := cdeF_dig (ms := ms) (q := q) (i := i) d (fun j hj => h j (by omega))
    obtain ⟨x, e⟩ := stoR_dvd (ms := ms) (i := i) d
    show (cdeF ms q (i + 1 + d) + q (i + 1 + d) * stoR ms (i + 1 + d)) / stoR ms i % _ = q i
    rw [e, show q (i + 1 + d) * (stoR ms i * ((gm ms i).2.length + 1) * x) = (((gm ms i).2.length + 1) * (x * q (i + 1 + d))) * stoR ms i by
      rw [Nat.mul_comm (q (i + 1 + d)), Nat.mul_assoc, Nat.mul_assoc, Nat.mul_comm (stoR ms i), Nat.mul_assoc], Nat.add_mul_div_right _ _ (stoR_pos i), Nat.add_mul_mod_self_left]
    exact ih
theorem cdeF_of {ms : List (Tx × Tx)} {c : Nat} : ∀ j, cdeF ms (digR ms c) j = c % stoR ms j
  | 0 => by rw [show stoR ms 0 = 1 from rfl, Nat.mod_one]; rfl
  | j + 1 => by
    show cdeF ms (digR ms c) j + digR ms c j * stoR ms j = c % (stoR ms j * ((gm ms j).2.length + 1))
    rw [cdeF_of j, Nat.mod_mul, Nat.mul_comm (digR ms c j)]
    rfl
/-- the places of a code -/
def dcd (ms : List (Tx × Tx)) (c : Nat) : List Nat := (List.range ms.length).map (digR ms c)
theorem gn_map {f : Nat → Nat} {n i : Nat} (h : i < n) : gn ((List.range n).map f) i = f i := by
  unfold gn
  rw [List.getD_eq_getElem?_getD, List.getElem?_map, List.getElem?_range h]
  rfl
theorem gn_ext {ps qs : List Nat} (hl : ps.length = qs.length) (h : ∀ i, i < ps.length → gn ps i = gn qs i) : ps = qs := by
  apply List.ext_getElem hl
  intro i h1 h2
  have := h i h1
  unfold gn at this
  rw [List.getD_eq_getElem?_getD, List.getD_eq_getElem?_getD, List.getElem?_eq_getElem h1, List.getElem?_eq_getElem h2] at this
  exact this
theorem dcd_ok {ms : List (Tx × Tx)} {c : Nat} : psOk ms (dcd ms c) := by
  refine ⟨by unfold dcd; rw [List.length_map, List.length_range], fun i hi => ?_⟩
  unfold dcd
  rw [gn_map hi]
  have : digR ms c i < (gm ms i).2.length + 1 := Nat.mod_lt _ (Nat.succ_pos _)
  omega
theorem cd_lt {ms : List (Tx × Tx)} {ps : List Nat} (h : psOk ms ps) : cd ms ps < stoR ms ms.length := cdeF_lt _ h.2
theorem dcd_cd {ms : List (Tx × Tx)} {ps : List Nat} (h : psOk ms ps) : dcd ms (cd ms ps) = ps := by
  apply gn_ext
  · rw [dcd_ok.1, h.1]
  · intro i hi
    rw [dcd_ok.1] at hi
    unfold dcd
    rw [gn_map hi]
    obtain ⟨d, hd⟩ : ∃ d, ms.length = i + 1 + d := ⟨ms.length - (i + 1), by omega⟩
    unfold cd
    rw [hd]
    exact cdeF_dig d (fun j hj => h.2 j (by omega))
theorem cd_dcd {ms : List (Tx × Tx)} {c : Nat} (h : c < stoR ms ms.length) : cd ms (dcd ms c) = c := by
  unfold cd
  rw [cdeF_congr (q' := digR ms c) _ (fun i hi => by unfold dcd; exact gn_map hi), cdeF_of, Nat.mod_eq_of_lt h]
theorem cd_inj {ms : List (Tx × Tx)} {ps qs : List Nat} (h1 : psOk ms ps) (h2 : psOk ms qs) (h : cd ms ps = cd ms qs) : ps = qs := by
  rw [← dcd_cd h1, h, dcd_cd h2]
theorem cdeF_end {ms : List (Tx × Tx)} {q : Nat → Nat} : ∀ j, (∀ i, i < j → q i = (gm ms i).2.length) → cdeF ms q j + 1 = stoR ms j
  | 0, _ => rfl
  | j + 1, h => by
    have ih := cdeF_end j (fun i hi => h i (by omega))
    show cdeF ms q j + q j * stoR ms j + 1 = stoR ms j * ((gm ms j).2.length + 1)
    rw [h j (Nat.lt_succ_self j), Nat.mul_succ, Nat.mul_comm (stoR ms j)]
    omega
theorem ends_ok {ms : List (Tx × Tx)} : psOk ms (ends ms) ∧ ∀ i, i < ms.length → gn (ends ms) i = (gm ms i).2.length := by
  have h : ∀ i, i < ms.length → gn (ends ms) i = (gm ms i).2.length := fun i hi => by
    unfold gn ends gm
    rw [List.getD_eq_getElem?_getD, List.getD_eq_getElem?_getD, List.getElem?_map, List.getElem?_eq_getElem hi]
    rfl
  exact ⟨⟨by unfold ends; rw [List.length_map], fun i hi => by rw [h i hi]; exact Nat.le_refl _⟩, h⟩
theorem cd_ends {ms : List (Tx × Tx)} : cd ms (ends ms) + 1 = stoR ms ms.length := cdeF_end _ ends_ok.2
theorem cd_zers {ms : List (Tx × Tx)} : cd ms (zers ms) = 0 := by
  have h : ∀ j, j ≤ ms.length → cdeF ms (gn (zers ms)) j = 0 := by
    intro j
    induction j with
    | zero => intro _; rfl
    | succ j ih =>
      intro hj
      show cdeF ms (gn (zers ms)) j + gn (zers ms) j * stoR ms j = 0
      rw [ih (by omega), zers_ok.2 j (by omega), Nat.zero_mul]
  exact h _ (Nat.le_refl _)
/-- a step over all, by the bits -/
theorem stAll_bits {a : At} {ms : List (Tx × Tx)} {ps qs : List Nat} (ha : okA a) (hM : okM ms) (hl : ps.length = ms.length) : stAll a ms ps = some qs ↔ qs.length = ms.length ∧ ∀ i, i < ms.length → (mtc a (gm ms i)).testBit (gn ps i) = true ∧ gn qs i = gn ps i + tln a (gm ms i) := by
  rw [stAll_iff hl]
  constructor
  · rintro ⟨h1, h2⟩
    refine ⟨h1, fun i hi => ?_⟩
    have := h2 i hi
    obtain ⟨-, g1, -, g2⟩ := gm_ok hM hi
    rw [stp_bit ha g1 g2] at this
    split at this
    · next hb => exact ⟨hb, (Option.some.inj this).symm⟩
    · cases this
  · rintro ⟨h1, h2⟩
    refine ⟨h1, fun i hi => ?_⟩
    obtain ⟨-, g1, -, g2⟩ := gm_ok hM hi
    rw [stp_bit ha g1 g2, if_pos (h2 i hi).1, (h2 i hi).2]
theorem stAll_psOk {a : At} {ms : List (Tx × Tx)} {ps qs : List Nat} (ha : okA a) (hM : okM ms) (hl : ps.length = ms.length) (h : stAll a ms ps = some qs) : psOk ms ps ∧ psOk ms qs := by
  obtain ⟨h1, h2⟩ := (stAll_bits ha hM hl).mp h
  refine ⟨⟨hl, fun i hi => ?_⟩, ⟨h1, fun i hi => ?_⟩⟩
  · have := mtc_in (h2 i hi).1
    omega
  · have := mtc_in (h2 i hi).1
    rw [(h2 i hi).2]
    exact this
