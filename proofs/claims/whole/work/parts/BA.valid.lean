/-! THE VALID ATOMS ARE ALL THAT CAN FOLLOW -/
theorem strict_ext {α : Type} {R : α → α → Prop} (hi : ∀ a, ¬ R a a) (hs : ∀ a b, R a b → ¬ R b a) : ∀ {l1 l2 : List α}, l1.Pairwise R → l2.Pairwise R → (∀ x, x ∈ l1 ↔ x ∈ l2) → l1 = l2 := by
  intro l1
  induction l1 with
  | nil =>
    intro l2 _ _ h
    cases l2 with
    | nil => rfl
    | cons b l2 => exact absurd ((h b).mpr List.mem_cons_self) (fun q => by cases q)
  | cons a l1 ih =>
    intro l2 h1 h2 h
    cases l2 with
    | nil => exact absurd ((h a).mp List.mem_cons_self) (fun q => by cases q)
    | cons b l2 =>
      rw [List.pairwise_cons] at h1 h2
      have hab : a = b := by
        rcases List.mem_cons.mp ((h a).mp List.mem_cons_self) with e | e
        · exact e
        · rcases List.mem_cons.mp ((h b).mpr List.mem_cons_self) with e' | e'
          · exact e'.symm
          · exact absurd (h2.1 a e) (hs _ _ (h1.1 b e'))
      subst hab
      congr 1
      refine ih h1.2 h2.2 (fun x => ⟨fun hx => ?_, fun hx => ?_⟩)
      · rcases List.mem_cons.mp ((h x).mp (List.mem_cons_of_mem _ hx)) with e | e
        · rw [e] at hx
          exact absurd (h1.1 _ hx) (hi _)
        · exact e
      · rcases List.mem_cons.mp ((h x).mpr (List.mem_cons_of_mem _ hx)) with e | e
        · rw [e] at hx
          exact absurd (h2.1 _ hx) (hi _)
        · exact e
def lenA (x : At × List Nat) : Nat := match x.1 with
  | .inl l => l.length
  | .inr _ => 0
def goA (ms : List (Tx × Tx)) (ps : List Nat) (a : At) : Option (At × List Nat) := (stAll a ms ps).map (fun q => (a, q))
theorem goA_some {ms : List (Tx × Tx)} {ps : List Nat} {a : At} {x : At × List Nat} (h : goA ms ps a = some x) : x.1 = a ∧ stAll a ms ps = some x.2 := by
  unfold goA at h
  cases hs : stAll a ms ps with
  | none => rw [hs] at h; cases h
  | some q =>
    rw [hs] at h
    rw [← Option.some.inj h]
    exact ⟨rfl, rfl⟩
theorem st_head {l : Tx} {m : Tx × Tx} {ms : List (Tx × Tx)} {p : Nat} {ps qs : List Nat} (h : stAll (.inl l) (m :: ms) (p :: ps) = some qs) : p + l.length ≤ m.2.length ∧ sbT m.2 p l.length = l := by
  rw [stAll_cons] at h
  obtain ⟨q, h1, h2⟩ := Option.bind_eq_some_iff.mp h
  unfold stpA at h1
  obtain ⟨t, h3, h4⟩ := Option.bind_eq_some_iff.mp h1
  have h3 : some l = some t := h3
  rw [← Option.some.inj h3] at h4
  split at h4
  · next g => exact g
  · cases h4
/-- the constants that can follow -/
theorem cstsR_eq {CL : List Tx} {ms : List (Tx × Tx)} {ps : List Nat} (hs : srt CL) (hc : ∀ l, l ∈ CL → 1 ≤ l.length ∧ l.length ≤ 4) (hsub : ∀ m, m ∈ ms → ∀ q n, 1 ≤ n → n ≤ 4 → q + n ≤ m.2.length → sbT m.2 q n ∈ CL) (h0 : ms ≠ []) (hl : ps.length = ms.length) : (CL.map .inl).filterMap (goA ms ps) = (csts ms ps).filterMap (goA ms ps) := by
  obtain _ | ⟨m, ms⟩ := ms
  · exact absurd rfl h0
  obtain _ | ⟨p, ps⟩ := ps
  · cases hl
  refine strict_ext (R := fun x y => lenA x < lenA y) (fun a => Nat.lt_irrefl _) (fun a b h => Nat.lt_asymm h) ?_ ?_ (fun x => ?_)
  · rw [List.pairwise_filterMap, List.pairwise_map]
    refine List.Pairwise.imp ?_ hs
    intro a b hab x hx y hy
    obtain ⟨x1, x2⟩ := goA_some hx
    obtain ⟨y1, y2⟩ := goA_some hy
    have e1 : lenA x = a.length := by unfold lenA; rw [x1]
    have e2 : lenA y = b.length := by unfold lenA; rw [y1]
    rw [e1, e2]
    have h1 := (st_head x2).2
    have h2 := (st_head y2).2
    have hle := cmT_len hab
    rcases Nat.lt_or_eq_of_le hle with h | h
    · exact h
    · rw [h, h2] at h1
      rw [h1, cmT_self] at hab
      omega
  · rw [List.pairwise_filterMap]
    unfold csts
    rw [List.pairwise_filterMap]
    refine List.Pairwise.imp ?_ (range_lt 4 1)
    intro n n' hn a ha b hb x hx y hy
    split at ha
    · next g1 =>
      split at hb
      · next g2 =>
        obtain ⟨x1, x2⟩ := goA_some hx
        obtain ⟨y1, y2⟩ := goA_some hy
        have e1 : lenA x = n := by
          unfold lenA
          rw [x1, ← Option.some.inj ha]
          exact sbT_len g1
        have e2 : lenA y = n' := by
          unfold lenA
          rw [y1, ← Option.some.inj hb]
          exact sbT_len g2
        rw [e1, e2]
        exact hn
      · cases hb
    · cases ha
  · rw [List.mem_filterMap, List.mem_filterMap]
    constructor
    · rintro ⟨a, ha, hx⟩
      obtain ⟨l, hl', rfl⟩ := List.mem_map.mp ha
      obtain ⟨x1, x2⟩ := goA_some hx
      obtain ⟨h1, h2⟩ := st_head x2
      obtain ⟨c1, c2⟩ := hc l hl'
      refine ⟨.inl l, ?_, hx⟩
      unfold csts
      refine List.mem_filterMap.mpr ⟨l.length, List.mem_range'.mpr ⟨l.length - 1, by omega, by omega⟩, ?_⟩
      rw [if_pos h1]
      exact congrArg (fun z => some (Sum.inl z)) h2
    · rintro ⟨a, ha, hx⟩
      unfold csts at ha
      obtain ⟨n, hn, e⟩ := List.mem_filterMap.mp ha
      split at e
      · next g =>
        have e := Option.some.inj e
        rw [List.mem_range'] at hn
        obtain ⟨d, hd, rfl⟩ := hn
        refine ⟨a, ?_, hx⟩
        rw [← e]
        exact List.mem_map.mpr ⟨_, hsub m List.mem_cons_self p _ (by omega) (by omega) g, rfl⟩
      · cases e
theorem AT_list (CL : List Tx) (N : Nat) : (List.range (CL.length + N)).map (AT CL) = CL.map .inl ++ (List.range N).map .inr := by
  rw [List.range_add, List.map_append, List.map_map]
  congr 1
  · apply List.ext_getElem
    · rw [List.length_map, List.length_map, List.length_range]
    · intro i h1 h2
      rw [List.length_map] at h2
      rw [List.getElem_map, List.getElem_map, List.getElem_range]
      unfold AT gC
      rw [if_pos h2, List.getD_eq_getElem?_getD, List.getElem?_eq_getElem h2]
      rfl
  · apply List.map_congr_left
    intro i _
    show AT CL (CL.length + i) = .inr i
    unfold AT
    rw [if_neg (by omega), Nat.add_sub_cancel_left]
theorem filter_fm {α β : Type} {p : α → Bool} {f : α → Option β} : ∀ {l : List α}, (∀ a, a ∈ l → p a = false → f a = none) → (l.filter p).filterMap f = l.filterMap f := by
  intro l
  induction l with
  | nil => intro _; rfl
  | cons a l ih =>
    intro h
    have ih := ih (fun b hb => h b (List.mem_cons_of_mem _ hb))
    cases hp : p a
    · rw [List.filter_cons_of_neg (by rw [hp]; decide), ih, List.filterMap_cons, h a List.mem_cons_self hp]
    · rw [List.filter_cons_of_pos hp, List.filterMap_cons, List.filterMap_cons, ih]
/-- what the reference's table stands on, for a set -/
def tbO (CL : List Tx) (ms : List (Tx × Tx)) : Prop := srt CL ∧ (∀ l, l ∈ CL → 1 ≤ l.length ∧ l.length ≤ 4) ∧ (∀ m, m ∈ ms → ∀ q n, 1 ≤ n → n ≤ 4 → q + n ≤ m.2.length → sbT m.2 q n ∈ CL) ∧ ms ≠ [] ∧ okM ms ∧ ∀ k, k < CL.length + 3672 → okA (AT CL k)
def VL (CL : List Tx) (ms : List (Tx × Tx)) : List Nat := VLp CL ms (CL.length + 3672)
theorem VL_mem {CL : List Tx} {ms : List (Tx × Tx)} {k : Nat} : k ∈ VL CL ms ↔ k < CL.length + 3672 ∧ vldB CL ms k = true := by
  unfold VL VLp
  rw [List.mem_filter, List.mem_range]
theorem nxt_VL {CL : List Tx} {ms : List (Tx × Tx)} {ps : List Nat} (h : tbO CL ms) (hp : psOk ms ps) : nxt ms ps = (VL CL ms).filterMap (fun k => goA ms ps (AT CL k)) := by
  obtain ⟨h1, h2, h3, h4, h5, h6⟩ := h
  have e1 : nxt ms ps = (cand ms ps).filterMap (goA ms ps) := rfl
  have e2 : (VL CL ms).filterMap (fun k => goA ms ps (AT CL k)) = ((List.range (CL.length + 3672)).map (AT CL)).filterMap (goA ms ps) := by
    unfold VL VLp
    rw [filter_fm, List.filterMap_map]
    · rfl
    · intro k hk hv
      rw [List.mem_range] at hk
      unfold goA
      cases hs : stAll (AT CL k) ms ps with
      | none => rfl
      | some q =>
        exfalso
        have hb := ((stAll_bits (h6 k hk) h5 hp.1).mp hs).2
        have : vldB CL ms k = true := by
          unfold vldB
          rw [List.all_eq_true]
          intro m hm
          obtain ⟨i, hi, e⟩ := List.mem_iff_getElem.mp hm
          have hg : gm ms i = m := by
            unfold gm
            rw [List.getD_eq_getElem?_getD, List.getElem?_eq_getElem hi]
            exact e
          have := (hb i hi).1
          rw [hg] at this
          exact decide_eq_true (fun z => by rw [z] at this; simp at this)
        rw [hv] at this
        cases this
  rw [e1, e2, AT_list]
  unfold cand
  rw [List.filterMap_append, List.filterMap_append, cstsR_eq h1 h2 h3 h4 hp.1]
theorem fm_flatMap {α β γ : Type} {f : α → Option β} {g : β → List γ} : ∀ {l : List α}, (l.filterMap f).flatMap g = l.flatMap (fun a => match f a with | some b => g b | none => []) := by
  intro l
  induction l with
  | nil => rfl
  | cons a l ih =>
    rw [List.filterMap_cons, List.flatMap_cons]
    cases h : f a with
    | none => rw [ih]; rfl
    | some b => rw [List.flatMap_cons, ih]
/-- the rows behind one atom -/
def cmA (P : Nat → Option At) (CL : List Tx) (ms : List (Tx × Tx)) (n k : Nat) (r : Int) (ps : List Nat) (x : Nat) : List (List At) := match stAll (AT CL x) ms ps with
  | some qs => if pinOk (P k) (AT CL x) = true then (comps P ms n (k + 1) (r - wt (AT CL x)) qs).map (AT CL x :: ·) else []
  | none => []
theorem comps_VL {CL : List Tx} {ms : List (Tx × Tx)} {ps : List Nat} {P : Nat → Option At} {n k : Nat} {r : Int} (h : tbO CL ms) (hp : psOk ms ps) : comps P ms (n + 1) k r ps = (VL CL ms).flatMap (cmA P CL ms n k r ps) := by
  show (nxt ms ps).flatMap _ = _
  rw [nxt_VL h hp, fm_flatMap]
  congr 1
  funext x
  unfold cmA goA
  cases stAll (AT CL x) ms ps with
  | none => rfl
  | some q => rfl
theorem ne_iff {α : Type} {l : List α} : l ≠ [] ↔ ∃ a, a ∈ l := by
  cases l with
  | nil => exact ⟨fun h => absurd rfl h, fun ⟨a, h⟩ => by cases h⟩
  | cons a l => exact ⟨fun _ => ⟨a, List.mem_cons_self⟩, fun _ h => by cases h⟩
theorem comps0_ne {P : Nat → Option At} {ms : List (Tx × Tx)} {k : Nat} {r : Int} {ps : List Nat} : comps P ms 0 k r ps ≠ [] ↔ r = 0 ∧ ps = ends ms := by
  unfold comps
  split
  · next h => exact ⟨fun _ => h, fun _ q => by cases q⟩
  · next h => exact ⟨fun q => absurd rfl q, fun q => absurd q h⟩
theorem cmA_ne {P : Nat → Option At} {CL : List Tx} {ms : List (Tx × Tx)} {n k x : Nat} {r : Int} {ps : List Nat} : cmA P CL ms n k r ps x ≠ [] ↔ ∃ qs, stAll (AT CL x) ms ps = some qs ∧ pinOk (P k) (AT CL x) = true ∧ comps P ms n (k + 1) (r - wt (AT CL x)) qs ≠ [] := by
  unfold cmA
  cases h : stAll (AT CL x) ms ps with
  | none => exact ⟨fun q => absurd rfl q, fun ⟨_, q, _⟩ => by cases q⟩
  | some qs =>
    dsimp only
    by_cases hp : pinOk (P k) (AT CL x) = true
    · rw [if_pos hp]
      constructor
      · intro q
        refine ⟨qs, rfl, hp, fun z => q (by rw [z]; rfl)⟩
      · rintro ⟨qs', q1, _, q2⟩ z
        rw [← Option.some.inj q1] at q2
        exact q2 (List.map_eq_nil_iff.mp z)
    · rw [if_neg hp]
      exact ⟨fun q => absurd rfl q, fun ⟨_, _, q, _⟩ => absurd q hp⟩
theorem compsS_ne {CL : List Tx} {ms : List (Tx × Tx)} {ps : List Nat} {P : Nat → Option At} {n k : Nat} {r : Int} (h : tbO CL ms) (hp : psOk ms ps) : comps P ms (n + 1) k r ps ≠ [] ↔ ∃ x, x ∈ VL CL ms ∧ ∃ qs, stAll (AT CL x) ms ps = some qs ∧ pinOk (P k) (AT CL x) = true ∧ comps P ms n (k + 1) (r - wt (AT CL x)) qs ≠ [] := by
  rw [comps_VL h hp, ne_iff]
  constructor
  · rintro ⟨p, hm⟩
    obtain ⟨x, hx, hm⟩ := List.mem_flatMap.mp hm
    exact ⟨x, hx, cmA_ne.mp (ne_iff.mpr ⟨p, hm⟩)⟩
  · rintro ⟨x, hx, q⟩
    obtain ⟨p, hm⟩ := ne_iff.mp (cmA_ne.mpr q)
    exact ⟨p, List.mem_flatMap.mpr ⟨x, hx, hm⟩⟩
