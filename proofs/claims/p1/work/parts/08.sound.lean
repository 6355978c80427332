/-! ONE INSTRUCTION: what the pure machine does, the machine does -/
def rtOK (rk : Nat) (rt : Option FieldType) : Prop := match rk with
  | 0 => rt = some .int
  | 1 => rt = some .boolean
  | 2 => rt = some .char
  | 3 => rt = some .long
  | 4 => ∃ n, rt = some (.object n)
  | _ => rt = none
def ilen (i : Instr) : Nat := match i with
  | .bipush _ => 2
  | .sipush _ => 3
  | .ldc _ => 2
  | .ldc_w _ => 3
  | .ldc2_w _ => 3
  | .iload _ => 2
  | .lload _ => 2
  | .aload _ => 2
  | .istore _ => 2
  | .lstore _ => 2
  | .astore _ => 2
  | .iinc _ _ => 3
  | .ifCond _ _ => 3
  | .if_icmp _ _ => 3
  | .if_acmp _ _ => 3
  | .goto _ => 3
  | .getfield _ => 3
  | .putfield _ => 3
  | .new _ => 3
  | .newarray _ => 2
  | .anewarray _ => 3
  | .invokestatic _ => 3
  | .invokevirtual _ => 3
  | .invokespecial _ => 3
  | _ => 1
theorem bip_ok {n : Int} (h : -128 ≤ n ∧ n < 128) : (Int8.ofInt n).toInt32 = Int32.ofInt n := Int8.toInt32_ofInt (show (-128 : Int) ≤ n from h.1) (show n ≤ (127 : Int) by omega)
theorem sip_ok {n : Int} (h : -32768 ≤ n ∧ n < 32768) : (Int16.ofInt n).toInt32 = Int32.ofInt n := Int16.toInt32_ofInt (show (-32768 : Int) ≤ n from h.1) (show n ≤ (32767 : Int) by omega)
def tgOK (i : Instr) (pc tg : Nat) : Prop := match i with
  | .bipush n => -128 ≤ n ∧ n < 128
  | .sipush n => -32768 ≤ n ∧ n < 32768
  | .ifCond _ o => (pc : Int) + o = (tg : Int)
  | .if_icmp _ o => (pc : Int) + o = (tg : Int)
  | .if_acmp _ o => (pc : Int) + o = (tg : Int)
  | .goto o => (pc : Int) + o = (tg : Int)
  | _ => True
/-- a method's fixed things: machine, code, tables, room -/
def cFix (p : Program) (l : Launch) (R : Room) (s : State) (m : MethodId) (args : Array Value) (meth : Method) (c : Code) (dC : Nat → ClassId) (dI : Nat → Nat → Nat) (aC : Nat → ClassId) (B nL : Nat) (md : Bool) (L0 S0 mc ms : Nat) (o : cO) (cc : ByteArray) (own : String) (rk : Nat) : Prop :=
  p.tables.exec = Jvm.exec ∧ c.code = cc ∧ c.maxLocals = nL ∧ s.vm.findClass own = some m.cls ∧ (∀ w ∈ lw_good, w.before args s = true) ∧ va_K (dC, dI) vwCl (cTys aC) s ∧ meth.locks = false ∧ rtOK rk meth.sig.returnType ∧ (md = true → meth.name = "<init>") ∧ B ≤ s.heap.size ∧ ((md = true → mc + L0 = o.2.2.length ∧ ms + S0 = msz o.2.2) ∧ (md = false → L0 ≤ mc ∧ S0 ≤ ms)) ∧ mc ≤ R.cells ∧ ms ≤ R.slots ∧ (o.1 ≠ 0 → ∀ x ∈ c.exceptionTable.toList, False)
section
variable {p : Program} {l : Launch} {e : Env} {R : Room} {s : State} {m : MethodId} {args : Array Value} {below : List Frame} {meth : Method} {c : Code}
variable {dC : Nat → ClassId} {dI : Nat → Nat → Nat} {aC : Nat → ClassId} {B nL : Nat} {md : Bool} {L0 S0 mc ms : Nat} {o : cO} {cc : ByteArray} {own : String} {rk : Nat}
theorem WA_weak {pc : Nat} {vs vs' : List (Option Value)} {st : List Value} {M : cM} (h : WA p l e R s m args below meth c dC dI aC B nL md L0 S0 mc ms o pc vs' st M) (hl : vs'.length = vs.length) (hw : ∀ (i : Nat) (v : Value), vs'[i]? = some (some v) → vs[i]? = some (some v)) : WA p l e R s m args below meth c dC dI aC B nL md L0 S0 mc ms o pc vs st M :=
  ⟨h.1, fun H locs ls cells slots hV => h.2 H locs ls cells slots (LV_weak hV hl hw)⟩
/-- where nothing of the world changes -/
theorem WA_step {pc pc' : Nat} {vs vs' : List (Option Value)} {st st' : List Value} {M : cM} (h : WA p l e R s m args below meth c dC dI aC B nL md L0 S0 mc ms o pc' vs' st' M)
    (hw : ∀ (H : Heap) (locs : List Loc) (ls : Array Slot) (cells slots : Nat) (Q : State → Prop), LV B ls nL vs → va_P (dC, dI) vwCl (cW B aC M) H → (∀ ls' : Array Slot, LV B ls' nL vs' → W p l e R s m args below meth c H locs cells slots Q (F0 m pc' ls' (st'.map (cV B)))) → W p l e R s m args below meth c H locs cells slots Q (F0 m pc ls (st.map (cV B)))) : WA p l e R s m args below meth c dC dI aC B nL md L0 S0 mc ms o pc vs st M :=
  ⟨h.1, fun H locs ls cells slots hV hP hS hC => hw H locs ls cells slots _ hV hP (fun ls' hV' => h.2 H locs ls' cells slots hV' hP hS hC)⟩
theorem WA_ret {pc : Nat} {vs : List (Option Value)} {st : List Value} {v : Option Value} {M : cM} (ho : o = (0, v, M)) (F : cFix p l R s m args meth c dC dI aC B nL md L0 S0 mc ms o cc own rk)
    (hw : ∀ (H : Heap) (locs : List Loc) (ls : Array Slot) (Qc : Array Value → State → Outcome → State → Prop), (∀ t : State, t.heap = H → s.WarmedH t.vm → Qc args s (.returned (v.map (cV B))) t) → (∀ q ∈ locs, B ≤ q.base) → W p l e R s m args below meth c H locs mc ms (MQ below Qc args s mc ms (fun q => B ≤ q)) (F0 m pc ls (st.map (cV B)))) : WA p l e R s m args below meth c dC dI aC B nL md L0 S0 mc ms o pc vs st M := by
  obtain ⟨hx, hb, hml, hown, hts, hK, hlocks, hrt, hinit, hB, hmc, hRc, hRs, hext⟩ := F
  subst ho
  refine ⟨fun _ => ⟨Nat.le_refl _, Nat.le_refl _⟩, fun H locs ls cells slots hV hP hS hC => ?_⟩
  refine vx_ret (W.widen (k := mc) (n := ms) ?_ ?_ (hw H locs ls _ (fun t ht hW => ⟨⟨rfl, rfl, by rw [ht]; exact hP, fun h => by rw [ht]; exact (hC.1 h).1⟩, hS.F ht⟩) hS.2.2))
  · cases md with
    | true => have h1 := (hC.1 rfl).2.1; have h2 := (hmc.1 rfl).1; dsimp only at h2; omega
    | false => rw [(hC.2 rfl).1]; exact (hmc.2 rfl).1
  · cases md with
    | true => have h1 := (hC.1 rfl).2.2; have h2 := (hmc.1 rfl).2; dsimp only at h2; omega
    | false => rw [(hC.2 rfl).2]; exact (hmc.2 rfl).2
/-- a store into a cell of the world, of the same size -/
theorem WA_put {pc pc' a : Nat} {vs : List (Option Value)} {st st' : List Value} {M : cM} {e0 e1 : cE} (h0 : M[a]? = some e0) (he : esz e1 = esz e0) (h : WA p l e R s m args below meth c dC dI aC B nL md L0 S0 mc ms o pc' vs st' (M.set a e1))
    (hw : ∀ (H : Heap) (locs : List Loc) (ls : Array Slot) (cells slots : Nat) (Q : State → Prop), LV B ls nL vs → va_P (dC, dI) vwCl (cW B aC M) H → va_S (fun q => B ≤ q) s.heap H locs → (∀ (H1 : Heap) (locs1 : List Loc), va_P (dC, dI) vwCl (cW B aC (M.set a e1)) H1 → va_S (fun q => B ≤ q) s.heap H1 locs1 → H1.size = H.size → W p l e R s m args below meth c H1 locs1 cells slots Q (F0 m pc' ls (st'.map (cV B)))) → W p l e R s m args below meth c H locs cells slots Q (F0 m pc ls (st.map (cV B)))) : WA p l e R s m args below meth c dC dI aC B nL md L0 S0 mc ms o pc vs st M :=
  ⟨h.1.set h0 he, fun H locs ls cells slots hV hP hS hC => hw H locs ls cells slots _ hV hP hS (fun H1 locs1 hP1 hS1 hz => h.2 H1 locs1 ls cells slots hV hP1 hS1 (hC.set hz h0 he))⟩
theorem WA_put0 {pc pc' a : Nat} {vs : List (Option Value)} {st st' : List Value} {M : cM} {e0 e1 : cE} (hmd : md = false) (h0 : M[a]? = some e0) (he : esz e1 = esz e0) (h : WA p l e R s m args below meth c dC dI aC B nL md L0 S0 mc ms o pc' vs st' (M.set a e1))
    (hw : ∀ (H : Heap) (locs : List Loc) (ls : Array Slot) (cells slots : Nat) (Q : State → Prop), LV B ls nL vs → va_P (dC, dI) vwCl (cW B aC M) H → va_S (fun q => B ≤ q) s.heap H locs → (∀ (H1 : Heap) (locs1 : List Loc), va_P (dC, dI) vwCl (cW B aC (M.set a e1)) H1 → va_S (fun q => B ≤ q) s.heap H1 locs1 → W p l e R s m args below meth c H1 locs1 cells slots Q (F0 m pc' ls (st'.map (cV B)))) → W p l e R s m args below meth c H locs cells slots Q (F0 m pc ls (st.map (cV B)))) : WA p l e R s m args below meth c dC dI aC B nL md L0 S0 mc ms o pc vs st M :=
  ⟨h.1.set h0 he, fun H locs ls cells slots hV hP hS hC => hw H locs ls cells slots _ hV hP hS (fun H1 locs1 hP1 hS1 => h.2 H1 locs1 ls cells slots hV hP1 hS1 ⟨fun q => absurd (hmd.symm.trans q) (by decide), hC.2⟩)⟩
/-- a read of a field -/
theorem WA_gfk {R' : Type} (F : cFix p l R s m args meth c dC dI aC B nL md L0 S0 mc ms o cc own rk) {k : Nat} {q : Nat × Nat × Nat} (hf : fOK own k q) {pc a : Nat} {vs : List (Option Value)} {st : List Value} {M : cM} (hdg : decode cc pc = .ok (.getfield k, 3)) {κ : Value → Option R'} {r : R'} (h : gfk q.2.2 M a q.1 q.2.1 κ = some r)
    (hk : ∀ v, κ v = some r → WA p l e R s m args below meth c dC dI aC B nL md L0 S0 mc ms o (pc + 3) vs (v :: st) M) : WA p l e R s m args below meth c dC dI aC B nL md L0 S0 mc ms o pc vs (.ref a :: st) M := by
  obtain ⟨hx, hb, hml, hown, hts, hK, hlocks, hrt, hinit, hB, hmc, hRc, hRs, hext⟩ := F
  have key : ∀ v : Value, gF M a q.1 q.2.1 = some v → κ v = some r → WA p l e R s m args below meth c dC dI aC B nL md L0 S0 mc ms o pc vs (.ref a :: st) M := fun v hv h2 =>
    WA_step (hk v h2) (fun H locs ls cells slots Q hV hP k2 => c_get hx hb hts hown hK hP hf hv hdg (k2 ls hV))
  unfold gfk at h
  split at h
  · obtain ⟨x, h1, h2⟩ := Option.bind_eq_some_iff.mp h
    exact key _ (fJ_of h1) h2
  · obtain ⟨x, h1, h2⟩ := Option.bind_eq_some_iff.mp h
    exact key _ (fR_of h1) h2
  · obtain ⟨x, h1, h2⟩ := Option.bind_eq_some_iff.mp h
    exact key _ (fR_of h1) h2
  · obtain ⟨x, h1, h2⟩ := Option.bind_eq_some_iff.mp h
    exact key _ (fR_of h1) h2
  · obtain ⟨x, h1, h2⟩ := Option.bind_eq_some_iff.mp h
    cases x with
    | none => exact key _ (fO_of h1) h2
    | some y => exact key _ (fO_of h1) h2
  · obtain ⟨x, h1, h2⟩ := Option.bind_eq_some_iff.mp h
    exact key _ (fI_of h1) h2
theorem rf_store {ty : FieldType} (h : isRf ty) (a : Nat) : narrow ty (.ref a) = .ref a ∧ fits ty (.ref a) = true := by
  rcases h with ⟨n, rfl⟩ | ⟨t, rfl⟩ <;> exact ⟨rfl, rfl⟩
theorem bool_store (B : Nat) {x : Int32} (h : x = 0 ∨ x = 1) : narrow .boolean (cV B (.int x)) = cV B (.int x) ∧ fits .boolean (cV B (.int x)) = true := by
  rcases h with rfl | rfl <;> exact ⟨rfl, rfl⟩
/-- a write of a field -/
theorem WA_pfk {R' : Type} (F : cFix p l R s m args meth c dC dI aC B nL md L0 S0 mc ms o cc own rk) {k : Nat} {q : Nat × Nat × Nat} (hf : fOK own k q) {pc a : Nat} {vs : List (Option Value)} {st : List Value} {v : Value} {M : cM} (hdg : decode cc pc = .ok (.putfield k, 3)) {κ : cM → Option R'} {r : R'} (h : pfk md q.2.2 M a q.1 q.2.1 v κ = some r)
    (hk : ∀ M', κ M' = some r → WA p l e R s m args below meth c dC dI aC B nL md L0 S0 mc ms o (pc + 3) vs st M') : WA p l e R s m args below meth c dC dI aC B nL md L0 S0 mc ms o pc vs (v :: .ref a :: st) M := by
  obtain ⟨hx, hb, hml, hown, hts, hK, hlocks, hrt, hinit, hB, hmc, hRc, hRs, hext⟩ := F
  obtain ⟨i, x, kd⟩ := q
  obtain ⟨C, T, N, ty, h1, h2, h3, h4, h5⟩ := hf
  dsimp only at h h1 h2 h3 h4 h5
  have key : ∀ (v : Value), ((T x).2.2.2 = false ∨ ((T x).2.2.2 = true ∧ meth.name = "<init>" ∧ (T x).1 = own)) → narrow ty (cV B v) = cV B v → fits ty (cV B v) = true → (pF M a i x v).bind κ = some r → WA p l e R s m args below meth c dC dI aC B nL md L0 S0 mc ms o pc vs (v :: .ref a :: st) M := by
    intro v hfin hn hfit h
    obtain ⟨M', g1, g2⟩ := Option.bind_eq_some_iff.mp h
    obtain ⟨fs, j1, j2, rfl⟩ := pF_of g1
    exact WA_put j1 (by simp [esz]) (hk _ g2) (fun H locs ls cells slots Q hV hP hS k2 => c_put hx hb hts hown hK hP hS h1 h2 h3 h4 hfin hn hfit j2 j1 v rfl hdg (fun H1 locs1 hP1 hS1 hz => k2 H1 locs1 hP1 hS1 hz))
  unfold pfk at h
  split at h
  · obtain ⟨f1, f2⟩ := h5
    subst f2
    exact key _ (Or.inl f1) rfl rfl h
  · obtain ⟨f1, f2⟩ := h5
    subst f2
    exact key _ (Or.inl f1) rfl rfl h
  · obtain ⟨f1, f2⟩ := h5
    exact key _ (Or.inl f1) (rf_store f2 _).1 (rf_store f2 _).2 h
  · obtain ⟨f1, f2⟩ := h5
    exact key _ (Or.inl f1) (rf_store f2 _).1 (rf_store f2 _).2 h
  · obtain ⟨f1, f2⟩ := h5
    subst f2
    split at h
    · next hc => exact key _ (Or.inl f1) (bool_store B hc).1 (bool_store B hc).2 h
    · cases h
  · split at h
    · next hmd =>
      obtain ⟨f1, f2, f3⟩ := h5
      exact key _ (Or.inr ⟨f1, hinit hmd, f2⟩) (rf_store f3 _).1 (rf_store f3 _).2 h
    · cases h
  · cases h
end
