/-! THE SEARCH, AS BOTH SHALL DO IT -/
/-- where an atom comes to in what was shown, if what it makes stands there -/
def stpA (a : At) (m : Tx × Tx) (p : Nat) : Option Nat := (mkA a m.1).bind fun t => if p + t.length ≤ m.2.length ∧ (m.2.drop p).take t.length = t then some (p + t.length) else none
def stAll (a : At) (ms : List (Tx × Tx)) (ps : List Nat) : Option (List Nat) := match ms, ps with
  | [], [] => some []
  | m :: ms, p :: ps => (stpA a m p).bind fun q => (stAll a ms ps).bind fun qs => some (q :: qs)
  | _, _ => none
def csts (ms : List (Tx × Tx)) (ps : List Nat) : List At := match ms, ps with
  | m :: _, p :: _ => (List.range' 1 4).filterMap (fun n => if p + n ≤ m.2.length then some (.inl ((m.2.drop p).take n)) else none)
  | _, _ => []
def cand (ms : List (Tx × Tx)) (ps : List Nat) : List At := csts ms ps ++ (List.range 3672).map .inr
def nxt (ms : List (Tx × Tx)) (ps : List Nat) : List (At × List Nat) := (cand ms ps).filterMap (fun a => (stAll a ms ps).map (fun q => (a, q)))
def ends (ms : List (Tx × Tx)) : List Nat := ms.map (fun m => m.2.length)
def zers (ms : List (Tx × Tx)) : List Nat := ms.map (fun _ => 0)
def pinOk (o : Option At) (a : At) : Bool := match o with
  | none => true
  | some b => decide (a = b)
/-- the rows of n atoms from a place of the program on, with a weight, that end what was shown -/
def comps (P : Nat → Option At) (ms : List (Tx × Tx)) : Nat → Nat → Int → List Nat → List (List At)
  | 0, _, r, ps => if r = 0 ∧ ps = ends ms then [[]] else []
  | n + 1, k, r, ps => (nxt ms ps).flatMap fun x => if pinOk (P k) x.1 = true then (comps P ms n (k + 1) (r - wt x.1) x.2).map (x.1 :: ·) else []
/-- all that count, with weight and length, in their order -/
def allG (P : Nat → Option At) (ms : List (Tx × Tx)) : List (Nat × Nat × List At) := (List.range' 4 61).flatMap fun w => (List.range' 1 4).flatMap fun n => (comps P ms n 0 (w : Nat) (zers ms)).map fun p => (w, n, p)
def best (P : Nat → Option At) (ms : List (Tx × Tx)) : List (List At) := ((allG P ms).take 5).map (fun g => g.2.2)
def okM (ms : List (Tx × Tx)) : Prop := ∀ m, m ∈ ms → okT m.1 ∧ m.1.length ≤ 20 ∧ okT m.2 ∧ m.2.length ≤ 20
theorem cand_ok {ms : List (Tx × Tx)} {ps : List Nat} (h : okM ms) {a : At} (ha : a ∈ cand ms ps) : okA a := by
  unfold cand at ha
  rcases List.mem_append.mp ha with h1 | h1
  · unfold csts at h1
    split at h1
    · next m ms' p ps' =>
      obtain ⟨n, hn, e⟩ := List.mem_filterMap.mp h1
      rw [List.mem_range'] at hn
      obtain ⟨_, hm, -⟩ := h m List.mem_cons_self
      have ho := (h m List.mem_cons_self).2.2.1
      split at e
      · next hl =>
        cases e
        refine ⟨?_, ?_, ?_⟩
        · intro q
          have := congrArg List.length q
          rw [List.length_take, List.length_drop] at this
          simp at this
          omega
        · rw [List.length_take]
          omega
        · intro c hc
          exact ho c (List.mem_of_mem_drop (List.mem_of_mem_take hc))
      · cases e
    · cases h1
  · obtain ⟨n, hn, rfl⟩ := List.mem_map.mp h1
    exact List.mem_range.mp hn
theorem nxt_mem {ms : List (Tx × Tx)} {ps : List Nat} {x : At × List Nat} (h : x ∈ nxt ms ps) : x.1 ∈ cand ms ps ∧ stAll x.1 ms ps = some x.2 := by
  unfold nxt at h
  obtain ⟨a, ha, e⟩ := List.mem_filterMap.mp h
  cases hs : stAll a ms ps with
  | none => rw [hs] at e; cases e
  | some q =>
    rw [hs] at e
    cases e
    exact ⟨ha, hs⟩
theorem comps_ok {P : Nat → Option At} {ms : List (Tx × Tx)} (h : okM ms) : ∀ (n k : Nat) (r : Int) (ps : List Nat) (p : List At), p ∈ comps P ms n k r ps → p.length = n ∧ (∀ a, a ∈ p → okA a) ∧ ((wtP p : Nat) : Int) = r := by
  intro n
  induction n with
  | zero =>
    intro k r ps p hp
    unfold comps at hp
    split at hp
    · next hr =>
      rw [List.mem_singleton.mp hp]
      exact ⟨rfl, fun a ha => (by cases ha), by rw [hr.1]; rfl⟩
    · cases hp
  | succ n ih =>
    intro k r ps p hp
    unfold comps at hp
    obtain ⟨x, hx, hp⟩ := List.mem_flatMap.mp hp
    split at hp
    · obtain ⟨q, hq, rfl⟩ := List.mem_map.mp hp
      obtain ⟨h1, h2, h3⟩ := ih _ _ _ _ hq
      refine ⟨by rw [List.length_cons, h1], ?_, ?_⟩
      · intro a ha
        rcases List.mem_cons.mp ha with rfl | ha
        · exact cand_ok h (nxt_mem hx).1
        · exact h2 a ha
      · unfold wtP at *
        rw [List.map_cons, List.sum_cons]
        omega
    · cases hp
theorem comps_bd {P : Nat → Option At} {ms : List (Tx × Tx)} (h : okM ms) {n k : Nat} {r : Int} {ps : List Nat} (hr : r < 4 * n ∨ 16 * n < r) : comps P ms n k r ps = [] := by
  cases hc : comps P ms n k r ps with
  | nil => rfl
  | cons p l =>
    obtain ⟨h1, h2, h3⟩ := comps_ok h n k r ps p (by rw [hc]; exact List.mem_cons_self)
    have := wtP_bd h2
    omega
theorem stAll_nil {a : At} : stAll a [] [] = some [] := rfl
theorem stAll_cons {a : At} {m : Tx × Tx} {ms : List (Tx × Tx)} {p : Nat} {ps : List Nat} : stAll a (m :: ms) (p :: ps) = (stpA a m p).bind fun q => (stAll a ms ps).bind fun qs => some (q :: qs) := rfl
def gm (ms : List (Tx × Tx)) (i : Nat) : Tx × Tx := ms.getD i ([], [])
def gn (ps : List Nat) (i : Nat) : Nat := ps.getD i 0
/-- by places -/
theorem stAll_iff {a : At} : ∀ {ms : List (Tx × Tx)} {ps qs : List Nat}, ps.length = ms.length → (stAll a ms ps = some qs ↔ qs.length = ms.length ∧ ∀ i, i < ms.length → stpA a (gm ms i) (gn ps i) = some (gn qs i)) := by
  intro ms
  induction ms with
  | nil =>
    intro ps qs hl
    have : ps = [] := List.length_eq_zero_iff.mp hl
    subst this
    rw [stAll_nil]
    constructor
    · intro h
      cases h
      exact ⟨rfl, fun i hi => absurd hi (Nat.not_lt_zero _)⟩
    · intro h
      have := List.length_eq_zero_iff.mp h.1
      rw [this]
  | cons m ms ih =>
    intro ps qs hl
    obtain _ | ⟨p, ps⟩ := ps
    · cases hl
    have hl : ps.length = ms.length := by simpa using hl
    rw [stAll_cons]
    constructor
    · intro h
      obtain ⟨q, h1, h⟩ := Option.bind_eq_some_iff.mp h
      obtain ⟨qs', h2, h⟩ := Option.bind_eq_some_iff.mp h
      cases h
      obtain ⟨g1, g2⟩ := (ih hl).mp h2
      refine ⟨by rw [List.length_cons, List.length_cons, g1], fun i hi => ?_⟩
      obtain _ | i := i
      · exact h1
      · exact g2 i (by simpa using hi)
    · intro h
      obtain ⟨g1, g2⟩ := h
      obtain _ | ⟨q, qs⟩ := qs
      · cases g1
      have h0 := g2 0 (by simp)
      have h0 : stpA a m p = some q := h0
      rw [h0, Option.bind_some, (ih hl).mpr ⟨by simpa using g1, fun i hi => g2 (i + 1) (by simpa using hi)⟩]
      rfl
theorem stpA_lt {a : At} {m : Tx × Tx} {p q : Nat} (h : stpA a m p = some q) : q ≤ m.2.length := by
  unfold stpA at h
  obtain ⟨t, -, h⟩ := Option.bind_eq_some_iff.mp h
  split at h
  · next g =>
    cases h
    exact g.1
  · cases h
/-! THE FIVE ARE THOSE OF EACH LENGTH, MERGED -/
def gle (x y : Nat × Nat × List At) : Prop := x.1 < y.1 ∨ x.1 = y.1 ∧ x.2.1 ≤ y.2.1
theorem pw_flatMap {α β : Type} {R : β → β → Prop} {f : α → List β} : ∀ {l : List α}, (∀ a, a ∈ l → (f a).Pairwise R) → (l.Pairwise fun a b => ∀ x, x ∈ f a → ∀ y, y ∈ f b → R x y) → (l.flatMap f).Pairwise R := by
  intro l
  induction l with
  | nil => intro _ _; exact List.Pairwise.nil
  | cons a l ih =>
    intro h1 h2
    rw [List.flatMap_cons, List.pairwise_append]
    rw [List.pairwise_cons] at h2
    refine ⟨h1 a List.mem_cons_self, ih (fun b hb => h1 b (List.mem_cons_of_mem _ hb)) h2.2, ?_⟩
    intro x hx y hy
    obtain ⟨b, hb, hy⟩ := List.mem_flatMap.mp hy
    exact h2.1 b hb x hx y hy
theorem range_lt : ∀ (n s : Nat), (List.range' s n).Pairwise (· < ·) := by
  intro n
  induction n with
  | zero => intro s; exact List.Pairwise.nil
  | succ n ih =>
    intro s
    rw [List.range'_succ, List.pairwise_cons]
    refine ⟨fun x hx => ?_, ih _⟩
    rw [List.mem_range'] at hx
    omega
theorem allG_sorted (P : Nat → Option At) (ms : List (Tx × Tx)) : (allG P ms).Pairwise gle := by
  unfold allG
  apply pw_flatMap
  · intro w hw
    apply pw_flatMap
    · intro n hn
      rw [List.pairwise_map]
      exact List.pairwise_of_forall (fun _ _ => Or.inr ⟨rfl, Nat.le_refl _⟩)
    · refine (range_lt 4 1).imp ?_
      intro a b hab x hx y hy
      obtain ⟨p, hp, rfl⟩ := List.mem_map.mp hx
      obtain ⟨q, hq, rfl⟩ := List.mem_map.mp hy
      exact Or.inr ⟨rfl, Nat.le_of_lt hab⟩
  · refine (range_lt 61 4).imp ?_
    intro a b hab x hx y hy
    obtain ⟨n, hn, hx⟩ := List.mem_flatMap.mp hx
    obtain ⟨n', hn', hy⟩ := List.mem_flatMap.mp hy
    obtain ⟨p, hp, rfl⟩ := List.mem_map.mp hx
    obtain ⟨q, hq, rfl⟩ := List.mem_map.mp hy
    exact Or.inl hab
def ofLen (n : Nat) (g : Nat × Nat × List At) : Bool := decide (g.2.1 = n)
/-- those of one length -/
def lenG (P : Nat → Option At) (ms : List (Tx × Tx)) (n : Nat) : List (Nat × Nat × List At) := (List.range' 4 61).flatMap fun w => (comps P ms n 0 (w : Nat) (zers ms)).map fun p => (w, n, p)
theorem filter_flatMap' {α β : Type} {p : β → Bool} {f : α → List β} : ∀ {l : List α}, (l.flatMap f).filter p = l.flatMap (fun a => (f a).filter p) := by
  intro l
  induction l with
  | nil => rfl
  | cons a l ih => rw [List.flatMap_cons, List.filter_append, ih, List.flatMap_cons]
theorem lenG_eq (P : Nat → Option At) (ms : List (Tx × Tx)) {n : Nat} (h1 : 1 ≤ n) (h4 : n ≤ 4) : (allG P ms).filter (ofLen n) = lenG P ms n := by
  unfold allG lenG
  rw [filter_flatMap']
  congr 1
  funext w
  rw [filter_flatMap']
  have e : ∀ n', ((comps P ms n' 0 (w : Nat) (zers ms)).map fun p => (w, n', p)).filter (ofLen n) = if n' = n then (comps P ms n' 0 (w : Nat) (zers ms)).map fun p => (w, n', p) else [] := by
    intro n'
    by_cases h : n' = n
    · rw [if_pos h, List.filter_eq_self]
      intro x hx
      obtain ⟨p, hp, rfl⟩ := List.mem_map.mp hx
      exact decide_eq_true h
    · rw [if_neg h, List.filter_eq_nil_iff]
      intro x hx
      obtain ⟨p, hp, rfl⟩ := List.mem_map.mp hx
      unfold ofLen
      simp [h]
  simp only [e]
  have h : n = 1 ∨ n = 2 ∨ n = 3 ∨ n = 4 := by omega
  rcases h with rfl | rfl | rfl | rfl <;> simp [List.range']
/-- how many of a length are among the first j -/
def tkn (G : List (Nat × Nat × List At)) (n j : Nat) : Nat := ((G.take j).filter (ofLen n)).length
theorem tkn_le (G : List (Nat × Nat × List At)) (n j : Nat) : tkn G n j ≤ j := by
  unfold tkn
  exact Nat.le_trans (List.length_filter_le _ _) (by rw [List.length_take]; omega)
theorem split_filter (G : List (Nat × Nat × List At)) (n j : Nat) : G.filter (ofLen n) = (G.take j).filter (ofLen n) ++ (G.drop j).filter (ofLen n) := by
  rw [← List.filter_append, List.take_append_drop]
/-- the head of those of a length that are left: the first such one of G behind j -/
theorem head_n {G : List (Nat × Nat × List At)} {n j : Nat} : (G.filter (ofLen n))[tkn G n j]? = ((G.drop j).filter (ofLen n))[0]? := by
  unfold tkn
  rw [split_filter G n j, List.getElem?_append_right (Nat.le_refl _), Nat.sub_self]
theorem more_n {G : List (Nat × Nat × List At)} {n j : Nat} : tkn G n j < (G.filter (ofLen n)).length ↔ (G.drop j).filter (ofLen n) ≠ [] := by
  rw [split_filter G n j, List.length_append]
  unfold tkn
  constructor
  · intro h q
    rw [q] at h
    simp at h
  · intro h
    have := List.length_pos_iff.mpr h
    omega
theorem tkn_succ {G : List (Nat × Nat × List At)} {n j : Nat} {g : Nat × Nat × List At} (h : G[j]? = some g) : tkn G n (j + 1) = tkn G n j + (if g.2.1 = n then 1 else 0) := by
  unfold tkn
  obtain ⟨hj, hg⟩ := List.getElem?_eq_some_iff.mp h
  rw [List.take_succ_eq_append_getElem hj, List.filter_append, List.length_append, hg]
  congr 1
  by_cases e : g.2.1 = n
  · rw [if_pos e, List.filter_cons_of_pos (by unfold ofLen; exact decide_eq_true e)]
    rfl
  · rw [if_neg e, List.filter_cons_of_neg (by unfold ofLen; simp [e])]
    rfl
