/-! ONE METHOD: from the pure machine's walk, piece by piece, to its contract -/
abbrev cL : Type := Launch × (Nat → ClassId) × (Nat → Nat → Nat) × (Nat → ClassId) × Nat
def CTx (q : cL) (y : MethodName) (w : Cond) (d : Nat) (as : List Value) (M : cM) (o : cO) : Prop := CT q.1 q.2.1 q.2.2.1 q.2.2.2.1 q.2.2.2.2 false y w d as M o
abbrev cCtx : Type := cL × Program × Env × Room × State × MethodId × Array Value × List Frame × Method × Code × Nat × Nat × Nat × Nat
def WX (X : cCtx) (nL : Nat) (o : cO) (pc : Nat) (vs : List (Option Value)) (st : List Value) (M : cM) : Prop := match X with
  | ((l, dC, dI, aC, B), p, e, R, s, m, args, below, meth, c, L0, S0, mc, ms) => WA p l e R s m args below meth c dC dI aC B nL false L0 S0 mc ms o pc vs st M
def FX (X : cCtx) (nL : Nat) (o : cO) (cc : ByteArray) (own : String) (rk D : Nat) : Prop := match X with
  | ((l, dC, dI, aC, B), p, _, R, s, m, args, _, meth, c, L0, S0, mc, ms) => cFix p l R s m args meth c dC dI aC B nL false L0 S0 mc ms o cc own rk ∧ cEnv dC dI aC B s ∧ (o.1 ≠ 0 → L0 + 1 ≤ mc ∧ S0 + 6 ≤ ms) ∧ l.stackTraces = false ∧ R.frames = D ∧ R.locals = 60 * D
section
variable {R' : Type}
abbrev cFn (R' : Type) : Type := List Value → cM → (Option Value → cM → Option R') → (Nat → cM → Option R') → Option R'
def lkN {α : Type} (l : List (Nat × α)) (k : Nat) : Option α := match l with
  | [] => none
  | (a, b) :: r => if Nat.beq a k = true then some b else lkN r k
theorem lkN_mem {α : Type} {l : List (Nat × α)} {k : Nat} {b : α} (h : lkN l k = some b) : (k, b) ∈ l := by
  induction l with
  | nil => cases h
  | cons x r ih =>
    obtain ⟨p, q'⟩ := x
    unfold lkN at h
    split at h
    · next hp =>
      cases h
      rw [Nat.eq_of_beq_eq_true hp]
      exact List.mem_cons_self
    · exact List.mem_cons_of_mem _ (ih h)
def caL (l : List (Nat × cFn R')) : Nat → cFn R' := fun k as M κ κx => match lkN l k with
  | some f => f as M κ κx
  | none => none
abbrev cKf (R' : Type) : Type := List (Option Value) → List Value → cM → Option R'
def KL (l : List (Nat × cKf R')) : Nat → cKf R' := fun pc vs st M => match lkN l pc with
  | some f => f vs st M
  | none => none
def spL (l : List Nat) (pc : Nat) : Bool := match l with
  | [] => false
  | a :: r => if Nat.beq a pc = true then true else spL r pc
def naL (l : List (Nat × Nat)) (k : Nat) : Nat := match lkN l k with
  | some n => n
  | none => 1000
end
/-- a callee, as the table of calls has it -/
def ceS (q : cL) (own : String) (d k' : Nat) {R' : Type} (fn : cFn R') : Prop := ∀ as M κ κx r, fn as M κ κx = some r → ∃ o' : cO, (o'.1 = 0 → κ o'.2.1 o'.2.2 = some r) ∧ (o'.1 ≠ 0 → κx o'.1 o'.2.2 = some r) ∧
  ((∃ y bytes maxL ret k n, k' = 3 * k ∧ CTx q y (.code y bytes maxL ret) d as M o' ∧ (∀ w ∈ [Cond.methodLink own k y, .static y, .initialized y.cls, .code y bytes maxL ret], w ∈ lw_good) ∧ (y.cls ≠ "java/lang/invoke/MethodHandle" ∧ y.cls ≠ "java/lang/invoke/VarHandle" ∧ (parseMethodDescriptor y.desc).map (fun d => d.parameters.length) = some n) ∧ as.length = n ∧ maxL ≤ 30) ∨
   (∃ y bytes maxL ret k n a as' ci T N fs, k' = 3 * k + 1 ∧ as = .ref a :: as' ∧ CTx q y (.code y bytes maxL ret) d as M o' ∧ M[a]? = some (.inr (ci, fs)) ∧ vwCl[ci]? = some (y.cls, T, N) ∧ (∀ w ∈ [Cond.methodLink own k y, .instanceMethod y, .selects y.cls y y, .initialized y.cls, .code y bytes maxL ret], w ∈ lw_good) ∧ (y.cls = y.cls ∧ y.cls ≠ "java/lang/invoke/MethodHandle" ∧ y.cls ≠ "java/lang/invoke/VarHandle" ∧ (parseMethodDescriptor y.desc).map (fun d => d.parameters.length) = some n) ∧ as'.length = n ∧ maxL ≤ 30) ∨
   (∃ k x y, k' = 3 * k ∧ as = [.int x, .int y] ∧ o' = (0, some (.int (mnI x y)), M) ∧ ∀ w ∈ [Cond.methodLink own k Lib.Math.min.name, .static Lib.Math.min.name, .initialized "java/lang/Math", .code Lib.Math.min.name Lib.Math.min.code 2 (some .int)], w ∈ lw_good))
def thS (own : String) (cc : ByteArray) (q : Nat × Nat) : Prop := ∃ ik ic is text, thOK own q.2 ik ic is text ∧ decode cc q.1 = .ok (.new ik, 3) ∧ decode cc (q.1 + 3) = .ok (.dup, 1) ∧ ((decode cc (q.1 + 4) = .ok (.ldc is, 2) ∧ decode cc (q.1 + 6) = .ok (.invokespecial ic, 3) ∧ decode cc (q.1 + 9) = .ok (.athrow, 1)) ∨ (decode cc (q.1 + 4) = .ok (.ldc_w is, 3) ∧ decode cc (q.1 + 7) = .ok (.invokespecial ic, 3) ∧ decode cc (q.1 + 10) = .ok (.athrow, 1)))
def swS (cc : ByteArray) (q : Nat × (List (Int32 × Nat) × Nat)) : Prop := ∃ i len, swB cc q.1 q.2 i len = true
theorem swS_ex {cc : ByteArray} {pc : Nat} {q : List (Int32 × Nat) × Nat} (h : swS cc (pc, q)) : ∃ i len, swB cc pc q i len = true := h
def cov : Nat → List (Option Value) → List (Option Value) → Prop
  | _, [], _ => True
  | i, none :: r, vs => cov (i + 1) r vs
  | i, some v :: r, vs => vs[i]? = some (some v) ∧ cov (i + 1) r vs
theorem cov_of : ∀ (vs0 vs : List (Option Value)) (j : Nat), cov j vs0 vs → ∀ (i : Nat) (v : Value), vs0[i]? = some (some v) → vs[j + i]? = some (some v)
  | [], _, _, _, _, _, h => by simp at h
  | none :: r, vs, j, hc, i, v, h => by
    cases i with
    | zero => simp at h
    | succ i => rw [show j + (i + 1) = j + 1 + i by omega]; exact cov_of r vs (j + 1) hc i v (by simpa using h)
  | some w :: r, vs, j, hc, i, v, h => by
    cases i with
    | zero => simp at h; subst h; exact hc.1
    | succ i => rw [show j + (i + 1) = j + 1 + i by omega]; exact cov_of r vs (j + 1) hc.2 i v (by simpa using h)
theorem WX_weak {X : cCtx} {nL : Nat} {o : cO} {pc : Nat} {vs0 vs : List (Option Value)} {st : List Value} {M : cM} (h : WX X nL o pc vs0 st M) (hl : vs0.length = nL) (hc : cov 0 vs0 vs) : WX X nL o pc vs st M := by
  obtain ⟨⟨l, dC, dI, aC, B⟩, p, e, R, s, m, args, below, meth, c, L0, S0, mc, ms⟩ := X
  exact ⟨h.1, fun H locs ls cells slots hV => h.2 H locs ls cells slots (LV_weak hV (hl.trans hV.2.2.1.symm) (fun i v hi => by have := cov_of vs0 vs 0 hc i v hi; rw [Nat.zero_add] at this; exact this))⟩
theorem KL_ok {l : Launch} {dC : Nat → ClassId} {dI : Nat → Nat → Nat} {aC : Nat → ClassId} {B : Nat} {p : Program} {e : Env} {R : Room} {s : State} {m : MethodId} {args : Array Value} {below : List Frame} {meth : Method} {c : Code} {L0 S0 mc ms : Nat} {nL : Nat} {o : cO} {R' : Type} {K : List (Nat × cKf R')} {r : R'} (hK : ∀ q ∈ K, ∀ vs st M, q.2 vs st M = some r → WA p l e R s m args below meth c dC dI aC B nL false L0 S0 mc ms o q.1 vs st M) (pc : Nat) (vs : List (Option Value)) (st : List Value) (M : cM) (h : KL K pc vs st M = some r) : WA p l e R s m args below meth c dC dI aC B nL false L0 S0 mc ms o pc vs st M := by
  unfold KL at h
  split at h
  · next f hf => exact hK _ (lkN_mem hf) _ _ _ h
  · cases h
theorem thL_ok {l : Launch} {dC : Nat → ClassId} {dI : Nat → Nat → Nat} {aC : Nat → ClassId} {B : Nat} {p : Program} {e : Env} {R : Room} {s : State} {m : MethodId} {args : Array Value} {below : List Frame} {meth : Method} {c : Code} {L0 S0 mc ms : Nat} {nL : Nat} {o : cO} {cc : ByteArray} {own : String} {rk D : Nat} (F : cFix p l R s m args meth c dC dI aC B nL false L0 S0 mc ms o cc own rk) (E : cEnv dC dI aC B s) (hmc : o.1 ≠ 0 → L0 + 1 ≤ mc ∧ S0 + 6 ≤ ms) (hl : l.stackTraces = false) (hRf : R.frames = D) (hRl : R.locals = 60 * D) {th : List (Nat × Nat)} (hth : ∀ q ∈ th, 6 ≤ D ∧ thS own cc q) {R' : Type} {kx : Nat → cM → Option R'} {r : R'} (hkx : ∀ e M, kx e M = some r → o = (e, none, M)) (pc : Nat) (vs : List (Option Value)) (M : cM) (e0 : Nat) (hte : lkN th pc = some e0) (hke : kx e0 M = some r) : WA p l e R s m args below meth c dC dI aC B nL false L0 S0 mc ms o pc vs [] M := by
  obtain ⟨hD, ik, ic, is, text, h1, d0, d3, dd⟩ := hth _ (lkN_mem hte)
  have hR : 6 ≤ R.frames ∧ 100 ≤ R.locals := by omega
  exact throw_S hl F E hmc h1 (hkx _ _ hke) hR d0 d3 dd
theorem caL_ok {l : Launch} {dC : Nat → ClassId} {dI : Nat → Nat → Nat} {aC : Nat → ClassId} {B : Nat} {p : Program} {e : Env} {R : Room} {s : State} {m : MethodId} {args : Array Value} {below : List Frame} {meth : Method} {c : Code} {L0 S0 mc ms : Nat} {nL : Nat} {o : cO} {cc : ByteArray} {own : String} {rk D : Nat} (F : cFix p l R s m args meth c dC dI aC B nL false L0 S0 mc ms o cc own rk) (E : cEnv dC dI aC B s) (hmc : o.1 ≠ 0 → L0 + 1 ≤ mc ∧ S0 + 6 ≤ ms) (hRf : R.frames = D) (hRl : R.locals = 60 * D) {R' : Type} {ca : List (Nat × cFn R')} (hca : ∀ q ∈ ca, 1 ≤ D ∧ ceS (l, dC, dI, aC, B) own (D - 1) q.1 q.2) {kx : Nat → cM → Option R'} {r : R'} (hkx : ∀ e M, kx e M = some r → o = (e, none, M)) (pc : Nat) (i : Instr) (k' : Nat) (vs : List (Option Value)) (as rest : List Value) (M : cM) (κ : Option Value → cM → Option R')
    (hi : ∃ k, (i = Instr.invokestatic k ∧ k' = 3 * k) ∨ (i = .invokevirtual k ∧ k' = 3 * k + 1) ∨ (i = .invokespecial k ∧ k' = 3 * k + 2)) (hdg : decode cc pc = .ok (i, 3)) (hcat : (rest.map Value.category).sum ≤ 8) (h : caL ca k' as M κ kx = some r) (hk : ∀ v M', κ v M' = some r → WA p l e R s m args below meth c dC dI aC B nL false L0 S0 mc ms o (pc + 3) vs (v.toList ++ rest) M') : WA p l e R s m args below meth c dC dI aC B nL false L0 S0 mc ms o pc vs (as.reverse ++ rest) M := by
  unfold caL at h
  split at h
  · next f hf =>
    obtain ⟨hD1, hce⟩ := hca _ (lkN_mem hf)
    obtain ⟨o', h0, hx0, hh⟩ := hce as M κ kx r h
    rcases hh with ⟨y, bytes, maxL, ret, k, n, e1, hM, hw, hd, hn, hm⟩ | ⟨y, bytes, maxL, ret, k, n, a, as', ci, T0, N, fs, e1, rfl, hM, ha, hci, hw, hd, hn, hm⟩ | ⟨k, x, y, e1, rfl, rfl, hw⟩
    · have hR : D - 1 + 1 ≤ R.frames ∧ 8 + (maxL + 11) + 60 * (D - 1) ≤ R.locals := by rw [hRf, hRl]; clear hw hd hcat; omega
      obtain ⟨k0, hi⟩ := hi
      rcases hi with ⟨rfl, e2⟩ | ⟨rfl, e2⟩ | ⟨rfl, e2⟩
      · have : k0 = k := by have e3 := e1.symm.trans e2; clear hw hd hcat; omega
        subst this
        exact call_S F E hmc hM hw hd hn hR hdg hcat (fun q => hk _ _ (h0 q)) (fun q => hkx _ _ (hx0 q))
      · exact absurd (e1.symm.trans e2) (by clear hw hd hcat; omega)
      · exact absurd (e1.symm.trans e2) (by clear hw hd hcat; omega)
    · have hR : D - 1 + 1 ≤ R.frames ∧ 8 + (maxL + 11) + 60 * (D - 1) ≤ R.locals := by rw [hRf, hRl]; clear hw hd hcat; omega
      obtain ⟨k0, hi⟩ := hi
      rcases hi with ⟨rfl, e2⟩ | ⟨rfl, e2⟩ | ⟨rfl, e2⟩
      · exact absurd (e1.symm.trans e2) (by clear hw hd hcat; omega)
      · have : k0 = k := by have e3 := e1.symm.trans e2; clear hw hd hcat; omega
        subst this
        exact call_V F E hmc hM ha hci hw hd hn hR hdg hcat (fun q => hk _ _ (h0 q)) (fun q => hkx _ _ (hx0 q))
      · exact absurd (e1.symm.trans e2) (by clear hw hd hcat; omega)
    · obtain ⟨k0, hi⟩ := hi
      rcases hi with ⟨rfl, e2⟩ | ⟨rfl, e2⟩ | ⟨rfl, e2⟩
      · have : k0 = k := by have e3 := e1.symm.trans e2; clear hw hcat; omega
        subst this
        obtain ⟨hx, hb, hml, hown, hts, hK, hlocks, hrt, hinit, hB, hmc0, hRc, hRs, hext⟩ := F
        have hR1 : 1 ≤ R.frames := by rw [hRf]; exact hD1
        have hR2 : (rest.map Value.category).sum + 13 ≤ R.locals := by rw [hRl]; omega
        have hN := hk _ _ (h0 rfl)
        refine ⟨hN.1, fun H locs ls cells slots hV hP hS hC => ?_⟩
        obtain ⟨hc0, hs00⟩ := hC.2 rfl
        subst cells
        subst slots
        refine va_mmin hx hb (by rw [hV.1, hml]) hown (hts _ (hw _ (by simp))) (hts _ (hw _ (by simp))) (hts _ (hw _ (by simp))) (hts _ (hw _ (by simp))) hR1 ?_ (Nat.le_trans (hmc0.2 rfl).1 hRc) (Nat.le_trans (hmc0.2 rfl).2 hRs) hdg (hN.2 H locs ls _ _ hV hP hS hC)
        rw [List.map_map]
        have : (fun v : Value => v.category) ∘ cV B = Value.category := funext (cV_cat B)
        rw [this]
        exact hR2
      · exact absurd (e1.symm.trans e2) (by clear hw hcat; omega)
      · exact absurd (e1.symm.trans e2) (by clear hw hcat; omega)
  · cases h
theorem seg_ok0 {l : Launch} {dC : Nat → ClassId} {dI : Nat → Nat → Nat} {aC : Nat → ClassId} {B : Nat} {p : Program} {e : Env} {R : Room} {s : State} {m : MethodId} {args : Array Value} {below : List Frame} {meth : Method} {c : Code} {L0 S0 mc ms : Nat} {nL : Nat} {o : cO} {cc : ByteArray} {own : String} {rk D : Nat} (F : cFix p l R s m args meth c dC dI aC B nL false L0 S0 mc ms o cc own rk) (E : cEnv dC dI aC B s) (hmc : o.1 ≠ 0 → L0 + 1 ≤ mc ∧ S0 + 6 ≤ ms) (hl : l.stackTraces = false) (hRf : R.frames = D) (hRl : R.locals = 60 * D) {R' : Type} {C : cP} (hC : pOK own C) {T : List cRow} (hT : T.all (rowB cc) = true) {na : List (Nat × Nat)} {ca : List (Nat × cFn R')} (hca : ∀ q ∈ ca, 1 ≤ D ∧ ceS (l, dC, dI, aC, B) own (D - 1) q.1 q.2) {th : List (Nat × Nat)} (hth : ∀ q ∈ th, 6 ≤ D ∧ thS own cc q) {sw : List (Nat × (List (Int32 × Nat) × Nat))} (hsw : ∀ q ∈ sw, swS cc q) {kr : Option Value → cM → Option R'} {kx : Nat → cM → Option R'} {sp : List Nat} {K : List (Nat × cKf R')} {r : R'}
    (hkr : ∀ v M, kr v M = some r → o = (0, v, M)) (hkx : ∀ e M, kx e M = some r → o = (e, none, M)) (hK : ∀ q ∈ K, ∀ vs st M, q.2 vs st M = some r → WA p l e R s m args below meth c dC dI aC B nL false L0 S0 mc ms o q.1 vs st M)
    {n pc : Nat} {vs : List (Option Value)} {st : List Value} {M : cM} (h : run T C false rk (naL na) (caL ca) (lkN th) (lkN sw) kr kx (spL sp) (KL K) n pc vs st M = some r) : WA p l e R s m args below meth c dC dI aC B nL false L0 S0 mc ms o pc vs st M :=
  run_ok (na := naL na) (ca := caL ca) (th := lkN th) (sw := lkN sw) (kr := kr) (kx := kx) (sp := spL sp) (K := KL K) (tb := T) F hC (KL_ok hK) hkr (fun pc k vs M e0 _ hte hke => thL_ok F E hmc hl hRf hRl hth hkx pc vs M e0 hte hke) (fun pc q hq => swS_ex (hsw (pc, q) (lkN_mem hq))) (fun pc i k' vs as rest M κ hi hdg hcat hlen h hk => caL_ok F E hmc hRf hRl hca hkx pc i k' vs as rest M κ hi hdg hcat h hk) (fun q => by cases q) hT n pc vs st M h
theorem seg_ok {X : cCtx} {nL : Nat} {o : cO} {cc : ByteArray} {own : String} {rk D : Nat} (G : FX X nL o cc own rk D) {R' : Type} {C : cP} (hC : pOK own C) {T : List cRow} (hT : T.all (rowB cc) = true) {na : List (Nat × Nat)} {ca : List (Nat × cFn R')} (hca : ∀ q ∈ ca, 1 ≤ D ∧ ceS X.1 own (D - 1) q.1 q.2) {th : List (Nat × Nat)} (hth : ∀ q ∈ th, 6 ≤ D ∧ thS own cc q) {sw : List (Nat × (List (Int32 × Nat) × Nat))} (hsw : ∀ q ∈ sw, swS cc q) {kr : Option Value → cM → Option R'} {kx : Nat → cM → Option R'} {sp : List Nat} {K : List (Nat × cKf R')} {r : R'}
    (hkr : ∀ v M, kr v M = some r → o = (0, v, M)) (hkx : ∀ e M, kx e M = some r → o = (e, none, M)) (hK : ∀ q ∈ K, ∀ vs st M, q.2 vs st M = some r → WX X nL o q.1 vs st M)
    {n pc : Nat} {vs : List (Option Value)} {st : List Value} {M : cM} (h : run T C false rk (naL na) (caL ca) (lkN th) (lkN sw) kr kx (spL sp) (KL K) n pc vs st M = some r) : WX X nL o pc vs st M := by
  obtain ⟨⟨l, dC, dI, aC, B⟩, p, e, R, s, m, args, below, meth, c, L0, S0, mc, ms⟩ := X
  exact seg_ok0 G.1 G.2.1 G.2.2.1 G.2.2.2.1 G.2.2.2.2.1 G.2.2.2.2.2 hC hT hca hth hsw hkr hkx hK h
theorem CTx_of {q : cL} (hst : q.1.stackTraces = false) {y : MethodName} {cc : ByteArray} {nL D : Nat} {ret : Option FieldType} {own : String} {rk : Nat} {as : List Value} {M : cM} {o : cO} (hy : plainName y.cls = true) (hown : y.cls = own) (hrt : rtOK rk ret) (hn : (argV as).length ≤ nL)
    (h : ∀ X : cCtx, X.1 = q → FX X nL o cc own rk D → WX X nL o 0 (ent as nL) [] M) : CTx q y (.code y cc nL ret) D as M o := by
  obtain ⟨l, dC, dI, aC, B⟩ := q
  exact CT_of hy hown hrt (fun q => absurd q (by decide)) hn (fun p e s m args below meth c F E hmc => h ((l, dC, dI, aC, B), p, e, rmd D (mcO false M o) (msO false M o), s, m, args, below, meth, c, 0, 0, mcO false M o, msO false M o) rfl ⟨F, E, fun h => by rw [Nat.zero_add, Nat.zero_add]; exact hmc rfl h, hst, rfl, rfl⟩)
-- a class's pool, by lists
def poL (ci : List (Nat × Int32)) (cl : List (Nat × Int64)) (fd : List (Nat × (Nat × Nat × Nat))) (nw : List (Nat × (Nat × List Value))) (an : List (Nat × Nat)) : cP := (lkN ci, lkN cl, lkN fd, lkN nw, lkN an)
def fB (own : String) (q : Nat × (Nat × Nat × Nat)) : Bool := match vwCl[q.2.1]? with
  | some (_, T, N) => decide (q.2.2.1 < N) && match parseFieldDescriptor (T q.2.2.1).2.2.1 with
    | some ty => (match q.2.2.2 with
      | 0 => !(T q.2.2.1).2.2.2 && decide (ty = .int)
      | 1 => !(T q.2.2.1).2.2.2 && decide (ty = .long)
      | 2 => !(T q.2.2.1).2.2.2 && (match ty with | .object _ => true | .array _ => true | _ => false)
      | 3 => !(T q.2.2.1).2.2.2 && (match ty with | .object _ => true | .array _ => true | _ => false)
      | 4 => !(T q.2.2.1).2.2.2 && decide (ty = .boolean)
      | 22 => (T q.2.2.1).2.2.2 && decide ((T q.2.2.1).1 = own) && (match ty with | .object _ => true | .array _ => true | _ => false)
      | _ => true)
    | none => false
  | none => false
theorem isRf_of {ty : FieldType} (h : (match ty with | .object _ => true | .array _ => true | _ => false) = true) : isRf ty := by
  cases ty with
  | object n => exact Or.inl ⟨n, rfl⟩
  | array t => exact Or.inr ⟨t, rfl⟩
  | _ => cases h
def fM (own : String) (q : Nat × (Nat × Nat × Nat)) : Prop := match vwCl[q.2.1]? with
  | some (_, T, _) => Cond.fieldLink own q.1 (T q.2.2.1).1 (T q.2.2.1).2.1 (T q.2.2.1).2.2.1 ∈ lw_tbl
  | none => True
theorem fB_ok {own : String} {k : Nat} {q : Nat × Nat × Nat} (h : fB own (k, q) = true) (hm : fM own (k, q)) : fOK own k q := by
  obtain ⟨i, x, kd⟩ := q
  unfold fM at hm
  unfold fB at h
  dsimp only at h
  split at h
  · next C T N hc =>
    rw [hc] at hm
    simp only [Bool.and_eq_true, decide_eq_true_eq] at h
    obtain ⟨h1, h3⟩ := h
    have h2 : Cond.fieldLink own k (T x).1 (T x).2.1 (T x).2.2.1 ∈ lw_tbl := hm
    split at h3
    · next ty hty =>
      refine ⟨C, T, N, ty, hc, h1, lw_good_of h2 rfl, hty, ?_⟩
      unfold kOK
      dsimp only
      split at h3 <;> simp only [Bool.and_eq_true, Bool.not_eq_true', decide_eq_true_eq] at h3
      · exact h3
      · exact h3
      · exact ⟨h3.1, isRf_of h3.2⟩
      · exact ⟨h3.1, isRf_of h3.2⟩
      · exact h3
      · exact ⟨h3.1.1, h3.1.2, isRf_of h3.2⟩
      · split <;> first | trivial | contradiction
    · cases h3
  · cases h
theorem poL_ok {own : String} {ci : List (Nat × Int32)} {cl : List (Nat × Int64)} {fd : List (Nat × (Nat × Nat × Nat))} {nw : List (Nat × (Nat × List Value))} {an : List (Nat × Nat)} (h1 : ∀ q ∈ ci, Cond.constant own q.1 q.2 ∈ lw_good) (h2 : ∀ q ∈ cl, Cond.constantLong own q.1 q.2 ∈ lw_good) (h3 : fd.all (fB own) = true) (h4 : ∀ q ∈ fd, fM own q) : pOK own (poL ci cl fd nw an) :=
  ⟨fun _ _ h => h1 _ (lkN_mem h), fun _ _ h => h2 _ (lkN_mem h), fun _ _ h => fB_ok (List.all_eq_true.mp h3 _ (lkN_mem h)) (h4 _ (lkN_mem h))⟩
-- results
abbrev krI : Option Value → cM → Option (Int32 × cM) := fun v M => match v with
  | some (.int x) => some (x, M)
  | _ => none
abbrev krJ : Option Value → cM → Option (Int64 × cM) := fun v M => match v with
  | some (.long x) => some (x, M)
  | _ => none
abbrev krR : Option Value → cM → Option (Nat × cM) := fun v M => match v with
  | some (.ref x) => some (x, M)
  | _ => none
abbrev krV : Option Value → cM → Option cM := fun v M => match v with
  | none => some M
  | _ => none
abbrev krTI : Option Value → cM → Option (Nat × Int32 × cM) := fun v M => match v with
  | some (.int x) => some (0, x, M)
  | _ => none
abbrev krTV : Option Value → cM → Option (Nat × cM) := fun v M => match v with
  | none => some (0, M)
  | _ => none
def eI (r : Int32 × cM) : cO := (0, some (.int r.1), r.2)
def eJ (r : Int64 × cM) : cO := (0, some (.long r.1), r.2)
def eR (r : Nat × cM) : cO := (0, some (.ref r.1), r.2)
def eV (r : cM) : cO := (0, none, r)
def eTI (r : Nat × Int32 × cM) : cO := (r.1, if r.1 = 0 then some (.int r.2.1) else none, r.2.2)
def eTV (r : Nat × cM) : cO := (r.1, none, r.2)
theorem krI_ok {r : Int32 × cM} (v : Option Value) (M : cM) (h : krI v M = some r) : eI r = (0, v, M) := by
  unfold krI at h; split at h <;> cases h; rfl
theorem krJ_ok {r : Int64 × cM} (v : Option Value) (M : cM) (h : krJ v M = some r) : eJ r = (0, v, M) := by
  unfold krJ at h; split at h <;> cases h; rfl
theorem krR_ok {r : Nat × cM} (v : Option Value) (M : cM) (h : krR v M = some r) : eR r = (0, v, M) := by
  unfold krR at h; split at h <;> cases h; rfl
theorem krV_ok {r : cM} (v : Option Value) (M : cM) (h : krV v M = some r) : eV r = (0, v, M) := by
  unfold krV at h; split at h <;> cases h; rfl
theorem krTI_ok {r : Nat × Int32 × cM} (v : Option Value) (M : cM) (h : krTI v M = some r) : eTI r = (0, v, M) := by
  unfold krTI at h; split at h <;> cases h; rfl
theorem krTV_ok {r : Nat × cM} (v : Option Value) (M : cM) (h : krTV v M = some r) : eTV r = (0, v, M) := by
  unfold krTV at h; split at h <;> cases h; rfl
theorem kxN_ok {α : Type} {f : α → cO} {r : α} (e : Nat) (M : cM) (h : (kxN e M : Option α) = some r) : f r = (e, none, M) := by cases h
theorem kxTI_ok {r : Nat × Int32 × cM} (e : Nat) (M : cM) (h : kxTI e M = some r) : eTI r = (e, none, M) := by
  unfold kxTI at h
  split at h
  · cases h
  · next hn => cases h; unfold eTI; simp [hn]
theorem kxTV_ok {r : Nat × cM} (e : Nat) (M : cM) (h : kxTV e M = some r) : eTV r = (e, none, M) := by
  unfold kxTV at h
  split at h
  · cases h
  · cases h; rfl
theorem isC_of {M : cM} {a ci : Nat} (h : isC M a ci = true) : ∃ fs, M[a]? = some (.inr (ci, fs)) := by
  unfold isC at h
  split at h
  · next c fs hc => exact ⟨fs, by rw [hc, Nat.eq_of_beq_eq_true h]⟩
  · cases h
theorem tb_ok {w : Cond} (i : Nat) (h : tables_1[i]? = some w) : w ∈ lw_tbl := List.mem_append_right _ (List.mem_of_getElem? h)
theorem ts_ok {w : Cond} (i : Nat) (h : (k2_sels lw_privs)[i]? = some w) : w ∈ lw_tbl := List.mem_append_left _ (List.mem_of_getElem? h)
