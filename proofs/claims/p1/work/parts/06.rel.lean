/-! HOW THE PURE MACHINE STANDS TO THE MACHINE -/
def lw_good : List Cond := lw_tbl.filter goodWord
theorem lw_good_of {w : Cond} (h : w ∈ lw_tbl) (hg : goodWord w = true) : w ∈ lw_good := List.mem_filter.mpr ⟨h, hg⟩
theorem lw_goodIn (w0 : Cond) : ∀ w ∈ lw_good, w ∈ (w0 :: lw_good) ∧ ((w.onTables && w.keeps) = true ∨ ∃ ty, w = .arrayClass ty) := fun _ h => ⟨List.mem_cons_of_mem _ h, good_of_word (List.mem_filter.mp h).2⟩
def cTys (aC : Nat → ClassId) : List (ClassId × FieldType) := [(aC 0, .int), (aC 1, .long), (aC 2, .char), (aC 3, .boolean), (aC 4, .object RX1), (aC 5, .object RX4), (aC 6, .object RX5), (aC 7, .object RX6), (aC 8, .object RX9), (aC 9, .object RX10)]
def esz : cE → Nat
  | .inl (_, n, _) => n
  | .inr (_, fs) => fs.length
def msz (M : cM) : Nat := (M.map esz).sum
abbrev cO : Type := Nat × Option Value × cM
def cMono (md : Bool) (M : cM) (o : cO) : Prop := md = true → M.length ≤ o.2.2.length ∧ msz M ≤ msz o.2.2
def cCnt (md : Bool) (B L0 S0 : Nat) (H : Heap) (M : cM) (cells slots : Nat) : Prop := (md = true → H.size = B + M.length ∧ cells + L0 = M.length ∧ slots + S0 = msz M) ∧ (md = false → cells = L0 ∧ slots = S0)
def eName (e : Nat) : String := match e with
  | 1 => "java/lang/IllegalArgumentException"
  | 2 => "java/lang/IllegalStateException"
  | _ => "java/lang/IndexOutOfBoundsException"
def cQ (dC : Nat → ClassId) (dI : Nat → Nat → Nat) (aC : Nat → ClassId) (B : Nat) (md : Bool) (o : cO) : Array Value → State → Outcome → State → Prop := fun _ st oc t => (o.1 = 0 ∧ oc = .returned (o.2.1.map (cV B)) ∧ va_P (dC, dI) vwCl (cW B aC o.2.2) t.heap ∧ (md = true → t.heap.size = B + o.2.2.length)) ∧ va_F (fun q => B ≤ q) st t
def cXq (dC : Nat → ClassId) (dI : Nat → Nat → Nat) (aC : Nat → ClassId) (B : Nat) (o : cO) : String → State → State → Prop := fun E st t => (o.1 ≠ 0 ∧ E = eName o.1 ∧ va_P (dC, dI) vwCl (cW B aC o.2.2) t.heap) ∧ va_F (fun q => B ≤ q) st t
-- worlds
theorem cW_get {B : Nat} {aC : Nat → ClassId} {M : cM} {k : Nat} {e : cE} (h : M[k]? = some e) : (cW B aC M)[k]? = some (B + k, cT B aC e) := by simp [cW, h]
theorem cW_of {B : Nat} {aC : Nat → ClassId} {M : cM} {k : Nat} {q : Nat × va_E} (h : (cW B aC M)[k]? = some q) : q.1 = B + k ∧ k < M.length := by
  simp only [cW, List.getElem?_mapIdx, Option.map_eq_some_iff] at h
  obtain ⟨e, h1, h2⟩ := h
  exact ⟨by rw [← h2], (List.getElem?_eq_some_iff.mp h1).1⟩
theorem cW_D {B : Nat} {aC : Nat → ClassId} {M : cM} : va_D (fun q => B ≤ q) (cW B aC M) := by
  refine ⟨fun i j p q hp hq h => ?_, fun k q h => ?_⟩
  · have h1 := (cW_of hp).1
    have h2 := (cW_of hq).1
    omega
  · have h1 := (cW_of h).1
    show B ≤ q.1
    omega
theorem cW_set {B : Nat} {aC : Nat → ClassId} {M : cM} {k : Nat} {e : cE} : (cW B aC M).set k (B + k, cT B aC e) = cW B aC (M.set k e) := by
  apply List.ext_getElem?
  intro j
  simp only [cW, List.getElem?_set, List.getElem?_mapIdx, List.length_mapIdx]
  by_cases h : k = j
  · subst h
    simp only [if_true]
    by_cases h2 : k < M.length
    · simp [h2]
    · simp [h2]
  · simp [h]
theorem cW_push {B : Nat} {aC : Nat → ClassId} {M : cM} {e : cE} : cW B aC (M ++ [e]) = cW B aC M ++ [(B + M.length, cT B aC e)] := by
  apply List.ext_getElem?
  intro j
  simp only [cW, List.getElem?_mapIdx, List.getElem?_append, List.length_mapIdx]
  by_cases h : j < M.length
  · simp [h]
  · simp only [h, if_false]
    by_cases h2 : j = M.length
    · subst h2
      simp
    · have : ¬ (j - M.length) = 0 := by omega
      rw [List.getElem?_eq_none (by simp; omega), List.getElem?_eq_none (by simp; omega)]
      rfl
theorem cV_cat (B : Nat) (v : Value) : (cV B v).category = v.category := by cases v <;> rfl
-- locals
def LV (B : Nat) (ls : Array Slot) (nL : Nat) (vs : List (Option Value)) : Prop := ls.size = nL ∧ lv_wf ls ∧ vs.length = nL ∧ ∀ (i : Nat) (v : Value), vs[i]? = some (some v) → ls[i]? = some (.val (cV B v))
def lvOf (B : Nat) (vs : List (Option Value)) : List (Nat × Value) := (List.range vs.length).filterMap (fun i => match vs[i]? with
  | some (some v) => some (i, cV B v)
  | _ => none)
theorem lvOf_mem {B : Nat} {vs : List (Option Value)} {i : Nat} {w : Value} (h : vs[i]? = some (some w)) : (i, cV B w) ∈ lvOf B vs := by
  refine List.mem_filterMap.mpr ⟨i, List.mem_range.mpr (List.getElem?_eq_some_iff.mp h).1, ?_⟩
  rw [h]
theorem LV.has {B : Nat} {ls : Array Slot} {nL : Nat} {vs : List (Option Value)} (h : LV B ls nL vs) : lv_has ls nL (lvOf B vs) := by
  refine ⟨h.1, h.2.1, fun q hq => ?_⟩
  obtain ⟨i, -, h2⟩ := List.mem_filterMap.mp hq
  split at h2
  · next v hv =>
    cases h2
    exact h.2.2.2 i v hv
  · cases h2
theorem cut1_get {vs : List (Option Value)} {i j : Nat} {w : Value} (h : (cut1 vs i)[j]? = some (some w)) : vs[j]? = some (some w) ∧ ¬ (j + 1 = i ∧ w.category = 2) := by
  cases i with
  | zero => exact ⟨h, by omega⟩
  | succ k =>
    have h : (if isL vs[k]? = true then vs.set k none else vs)[j]? = some (some w) := h
    by_cases hL : isL vs[k]? = true
    · rw [if_pos hL] at h
      by_cases hk : k = j
      · subst hk
        by_cases hl : k < vs.length
        · simp [hl] at h
        · simp [hl] at h
      · rw [List.getElem?_set_ne hk] at h
        exact ⟨h, by omega⟩
    · rw [if_neg hL] at h
      have hvs := h
      refine ⟨h, fun hc => ?_⟩
      obtain ⟨h1, h2⟩ := hc
      have : j = k := by omega
      subst this
      rw [hvs] at hL
      exact hL (by show (w.category == 2) = true; rw [h2]; rfl)
theorem cut1_len (vs : List (Option Value)) (i : Nat) : (cut1 vs i).length = vs.length := by
  cases i with
  | zero => rfl
  | succ k =>
    unfold cut1
    by_cases hL : isL vs[k]? = true <;> simp [hL]
theorem sto_get {vs : List (Option Value)} {i j : Nat} {v w : Value} (h : (sto vs i v)[j]? = some (some w)) : (j = i ∧ w = v) ∨ (j ≠ i ∧ vs[j]? = some (some w) ∧ ¬ (j + 1 = i ∧ w.category = 2)) := by
  unfold sto at h
  by_cases hk : i = j
  · subst hk
    rw [List.getElem?_set] at h
    split at h
    · split at h
      · cases h; exact Or.inl ⟨rfl, rfl⟩
      · cases h
    · next hn => exact absurd rfl hn
  · rw [List.getElem?_set_ne hk] at h
    obtain ⟨h1, h2⟩ := cut1_get h
    exact Or.inr ⟨fun q => hk q.symm, h1, h2⟩
theorem LV_sto {B : Nat} {ls ls' : Array Slot} {nL i : Nat} {vs : List (Option Value)} {v : Value} (h : LV B ls nL vs) (h2 : lv_has ls' nL ((i, cV B v) :: (lvOf B vs).filter (fun q => !(q.1 == i) && !(q.1 + 1 == i && q.2.category == 2)))) : LV B ls' nL (sto vs i v) := by
  refine ⟨h2.1, h2.2.1, ?_, fun j w hj => ?_⟩
  · rw [show (sto vs i v).length = vs.length from by simp [sto, cut1_len]]
    exact h.2.2.1
  · rcases sto_get hj with ⟨rfl, rfl⟩ | ⟨h3, h4, h5⟩
    · exact h2.2.2 _ List.mem_cons_self
    · refine h2.2.2 (j, cV B w) (List.mem_cons_of_mem _ (List.mem_filter.mpr ⟨lvOf_mem h4, ?_⟩))
      simp only [cV_cat, Bool.and_eq_true, Bool.not_eq_true', beq_eq_false_iff_ne, Bool.and_eq_false_iff, ne_eq]
      refine ⟨h3, ?_⟩
      by_cases h6 : j + 1 = i
      · exact Or.inr (fun q => h5 ⟨h6, q⟩)
      · exact Or.inl h6
theorem LV_sto2 {B : Nat} {ls ls' : Array Slot} {nL i : Nat} {vs : List (Option Value)} {v : Value} (h : LV B ls nL vs) (h2 : lv_has ls' nL ((i, cV B v) :: (lvOf B vs).filter (fun q => !(q.1 == i) && (!(q.1 == i + 1) && !(q.1 + 1 == i && q.2.category == 2))))) : LV B ls' nL (sto2 vs i v) := by
  refine ⟨h2.1, h2.2.1, ?_, fun j w hj => ?_⟩
  · rw [show (sto2 vs i v).length = vs.length from by simp [sto2, sto, cut1_len]]
    exact h.2.2.1
  · unfold sto2 at hj
    have hne : i + 1 ≠ j := by
      intro q
      subst q
      rw [List.getElem?_set] at hj
      split at hj
      · split at hj
        · cases hj
        · cases hj
      · next hn => exact absurd rfl hn
    rw [List.getElem?_set_ne hne] at hj
    rcases sto_get hj with ⟨rfl, rfl⟩ | ⟨h3, h4, h5⟩
    · exact h2.2.2 _ List.mem_cons_self
    · refine h2.2.2 (j, cV B w) (List.mem_cons_of_mem _ (List.mem_filter.mpr ⟨lvOf_mem h4, ?_⟩))
      simp only [cV_cat, Bool.and_eq_true, Bool.not_eq_true', beq_eq_false_iff_ne, Bool.and_eq_false_iff, ne_eq]
      refine ⟨h3, fun q => hne q.symm, ?_⟩
      by_cases h6 : j + 1 = i
      · exact Or.inr (fun q => h5 ⟨h6, q⟩)
      · exact Or.inl h6
theorem LV_weak {B : Nat} {ls : Array Slot} {nL : Nat} {vs vs' : List (Option Value)} (h : LV B ls nL vs) (hl : vs'.length = vs.length) (hw : ∀ (i : Nat) (v : Value), vs'[i]? = some (some v) → vs[i]? = some (some v)) : LV B ls nL vs' := ⟨h.1, h.2.1, hl.trans h.2.2.1, fun i v hv => h.2.2.2 i v (hw i v hv)⟩
theorem lI_of {vs : List (Option Value)} {i : Nat} {x : Int32} (h : lI vs i = some x) : vs[i]? = some (some (.int x)) := by
  unfold lI at h
  split at h
  · next hv => cases h; exact hv
  · cases h
theorem lJ_of {vs : List (Option Value)} {i : Nat} {x : Int64} (h : lJ vs i = some x) : vs[i]? = some (some (.long x)) := by
  unfold lJ at h
  split at h
  · next hv => cases h; exact hv
  · cases h
theorem lR_of {vs : List (Option Value)} {i : Nat} {x : Nat} (h : lR vs i = some x) : vs[i]? = some (some (.ref x)) := by
  unfold lR at h
  split at h
  · next hv => cases h; exact hv
  · cases h
-- cells
theorem gF_of {M : cM} {a ci k : Nat} {v : Value} (h : gF M a ci k = some v) : ∃ fs, M[a]? = some (.inr (ci, fs)) ∧ fs[k]? = some v := by
  unfold gF at h
  split at h
  · next c fs hM =>
    split at h
    · next hc => subst hc; exact ⟨fs, hM, h⟩
    · cases h
  · cases h
theorem fI_of {M : cM} {a ci k : Nat} {x : Int32} (h : fI M a ci k = some x) : gF M a ci k = some (.int x) := by
  unfold fI at h
  split at h
  · next hv => cases h; exact hv
  · cases h
theorem fJ_of {M : cM} {a ci k : Nat} {x : Int64} (h : fJ M a ci k = some x) : gF M a ci k = some (.long x) := by
  unfold fJ at h
  split at h
  · next hv => cases h; exact hv
  · cases h
theorem fR_of {M : cM} {a ci k : Nat} {x : Nat} (h : fR M a ci k = some x) : gF M a ci k = some (.ref x) := by
  unfold fR at h
  split at h
  · next hv => cases h; exact hv
  · cases h
theorem fO_of {M : cM} {a ci k : Nat} {x : Option Nat} (h : fO M a ci k = some x) : gF M a ci k = some (va_rf x) := by
  unfold fO at h
  split at h
  · next hv => cases h; exact hv
  · next hv => cases h; exact hv
  · cases h
theorem pF_of {M M' : cM} {a ci k : Nat} {v : Value} (h : pF M a ci k v = some M') : ∃ fs, M[a]? = some (.inr (ci, fs)) ∧ k < fs.length ∧ M' = M.set a (.inr (ci, fs.set k v)) := by
  unfold pF at h
  split at h
  · next c fs hM =>
    split at h
    · next hc => cases h; obtain ⟨h1, h2⟩ := hc; subst h1; exact ⟨fs, hM, h2, rfl⟩
    · cases h
  · cases h
theorem aI_of {t : Nat} {M : cM} {a : Nat} {i x : Int32} (h : aI t M a i = some x) : ∃ n f, M[a]? = some (.inl (t, n, .inl f)) ∧ vp_in i n ∧ x = f i.toNatClampNeg := by
  unfold aI at h
  split at h
  · next t' n f hM =>
    split at h
    · next hc => cases h; obtain ⟨h1, h2⟩ := hc; subst h1; exact ⟨n, f, hM, h2, rfl⟩
    · cases h
  · cases h
theorem sI_of {t : Nat} {M M' : cM} {a : Nat} {i x : Int32} (h : sI t M a i x = some M') : ∃ n f, M[a]? = some (.inl (t, n, .inl f)) ∧ vp_in i n ∧ M' = M.set a (.inl (t, n, .inl (upd f i.toNatClampNeg (nrT t x)))) := by
  unfold sI at h
  split at h
  · next t' n f hM =>
    split at h
    · next hc => cases h; obtain ⟨h1, h2⟩ := hc; subst h1; exact ⟨n, f, hM, h2, rfl⟩
    · cases h
  · cases h
theorem aJ_of {M : cM} {a : Nat} {i : Int32} {x : Int64} (h : aJ M a i = some x) : ∃ n f, M[a]? = some (.inl (1, n, .inr (.inl f))) ∧ vp_in i n ∧ x = f i.toNatClampNeg := by
  unfold aJ at h
  split at h
  · next t' n f hM =>
    split at h
    · next hc => cases h; obtain ⟨h1, h2⟩ := hc; subst h1; exact ⟨n, f, hM, h2, rfl⟩
    · cases h
  · cases h
theorem sJ_of {M M' : cM} {a : Nat} {i : Int32} {x : Int64} (h : sJ M a i x = some M') : ∃ n f, M[a]? = some (.inl (1, n, .inr (.inl f))) ∧ vp_in i n ∧ M' = M.set a (.inl (1, n, .inr (.inl (vp_updL f i.toNatClampNeg x)))) := by
  unfold sJ at h
  split at h
  · next t' n f hM =>
    split at h
    · next hc => cases h; obtain ⟨h1, h2⟩ := hc; subst h1; exact ⟨n, f, hM, h2, rfl⟩
    · cases h
  · cases h
theorem aR_of {M : cM} {a : Nat} {i : Int32} {x : Nat} (h : aR M a i = some x) : ∃ t n f, M[a]? = some (.inl (t, n, .inr (.inr (.inr (.inr f))))) ∧ 4 ≤ t ∧ t < 10 ∧ vp_in i n ∧ f i.toNatClampNeg = some x := by
  unfold aR at h
  split at h
  · next t' n f hM =>
    split at h
    · next hc => obtain ⟨h1, h2⟩ := hc; exact ⟨t', n, f, hM, h1.1, h1.2, h2, h⟩
    · cases h
  · cases h
theorem sR_of {M M' : cM} {a q : Nat} {i : Int32} (h : sR M a i q = some M') : ∃ t n f fs, M[a]? = some (.inl (t, n, .inr (.inr (.inr (.inr f))))) ∧ M[q]? = some (.inr (tcl t, fs)) ∧ 4 ≤ t ∧ t < 10 ∧ vp_in i n ∧ M' = M.set a (.inl (t, n, .inr (.inr (.inr (.inr (va_up f i.toNatClampNeg (some q))))))) := by
  unfold sR at h
  split at h
  · next t' n f ci fs hM hq =>
    split at h
    · next hc => cases h; obtain ⟨⟨h1, h2, h3⟩, h4⟩ := hc; subst h3; exact ⟨t', n, f, fs, hM, hq, h1, h2, h4, rfl⟩
    · cases h
  · cases h
theorem aN_of {M : cM} {a : Nat} {x : Int32} (h : aN M a = some x) : ∃ t y, M[a]? = some (.inl (t, y)) ∧ t < 10 ∧ x = Int32.ofNat y.1 := by
  unfold aN at h
  split at h
  · next t' n y hM =>
    split at h
    · next hc => cases h; exact ⟨t', (n, y), hM, hc, rfl⟩
    · cases h
  · cases h
-- sizes
theorem sum_set (l : List Nat) (k x : Nat) (h : l[k]? = some x) : (l.set k x).sum = l.sum := by
  have : l.set k x = l := by
    apply List.ext_getElem?
    intro j
    rw [List.getElem?_set]
    by_cases hk : k = j
    · subst hk
      rw [h]
      simp [(List.getElem?_eq_some_iff.mp h).1]
    · simp [hk]
  rw [this]
theorem msz_set {M : cM} {k : Nat} {e0 e : cE} (h : M[k]? = some e0) (he : esz e = esz e0) : msz (M.set k e) = msz M := by
  unfold msz
  rw [List.map_set]
  exact sum_set _ _ _ (by rw [List.getElem?_map, h, he]; rfl)
theorem msz_push (M : cM) (e : cE) : msz (M ++ [e]) = msz M + esz e := by simp [msz]
theorem cMono.set {md : Bool} {M : cM} {o : cO} {k : Nat} {e0 e : cE} (h : cMono md (M.set k e) o) (h0 : M[k]? = some e0) (he : esz e = esz e0) : cMono md M o := fun hm => by
  have h1 := h hm
  rw [List.length_set, msz_set h0 he] at h1
  exact h1
theorem cMono.push {md : Bool} {M : cM} {o : cO} {e : cE} (h : cMono md (M ++ [e]) o) : cMono md M o := fun hm => by
  have h1 := h hm
  rw [List.length_append, msz_push] at h1
  exact ⟨by have := h1.1; simp at this; omega, by have := h1.2; omega⟩
theorem cCnt.set {md : Bool} {B L0 S0 : Nat} {H H1 : Heap} {M : cM} {k cells slots : Nat} {e0 e : cE} (h : cCnt md B L0 S0 H M cells slots) (hz : H1.size = H.size) (h0 : M[k]? = some e0) (he : esz e = esz e0) : cCnt md B L0 S0 H1 (M.set k e) cells slots := by
  refine ⟨fun hm => ?_, h.2⟩
  rw [List.length_set, msz_set h0 he, hz]
  exact h.1 hm
/-- what holds at the head of a contract -/
def cPre (dC : Nat → ClassId) (dI : Nat → Nat → Nat) (aC : Nat → ClassId) (B : Nat) (md : Bool) (M : cM) (U : State) : Prop :=
  va_K (dC, dI) vwCl (cTys aC) U ∧ va_P (dC, dI) vwCl (cW B aC M) U.heap ∧ B ≤ U.heap.size ∧ (md = true → U.heap.size = B + M.length ∧ ∀ C ∈ [RX1, RX4, RX5, RX6, RX9, RX10], va_AO C U)
/-- from here the method comes to its end with o -/
def WA (p : Program) (l : Launch) (e : Env) (R : Room) (s : State) (m : MethodId) (args : Array Value) (below : List Frame) (meth : Method) (c : Code) (dC : Nat → ClassId) (dI : Nat → Nat → Nat) (aC : Nat → ClassId) (B nL : Nat) (md : Bool) (L0 S0 mc ms : Nat) (o : cO) (pc : Nat) (vs : List (Option Value)) (st : List Value) (M : cM) : Prop :=
  cMono md M o ∧ ∀ (H : Heap) (locs : List Loc) (ls : Array Slot) (cells slots : Nat), LV B ls nL vs → va_P (dC, dI) vwCl (cW B aC M) H → va_S (fun q => B ≤ q) s.heap H locs → cCnt md B L0 S0 H M cells slots →
    W p l e R s m args below meth c H locs cells slots (vx_MQ below (cQ dC dI aC B md o) (cXq dC dI aC B o) args s mc ms (fun q => B ≤ q)) (F0 m pc ls (st.map (cV B)))
