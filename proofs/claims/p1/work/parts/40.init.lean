/-! MAKING: new cells, constructors -/
def lw_nst : List Cond := lw_tbl.filter (fun w => match w with
  | .methodLinkNest _ _ _ _ => true
  | _ => false)
theorem nst_warm {w : Cond} (hw : w ∈ lw_nst) {s U : State} (hW : s.WarmedH U.vm) (h : va_Nw w s) : va_Nw w U := by
  have h1 := (List.mem_filter.mp hw).2
  split at h1
  · exact va_Nw.warmM hW h
  · cases h1
def nwOK (own : String) (C : cP) : Prop := (∀ k q, C.2.2.2.1 k = some q → ∃ (Cn : String) (T : u_T) (N : Nat) (ty : Nat → FieldType), vwCl[q.1]? = some (Cn, T, N) ∧ Cond.classLink own k Cn ∈ lw_good ∧ Cond.instantiable Cn N ∈ lw_good ∧ Cond.initialized Cn ∈ lw_good ∧ (∀ k, k < N → parseFieldDescriptor (T k).2.2.1 = some (ty k)) ∧ q.2.length = N ∧ (∀ B : Nat, q.2.map (cV B) = q.2) ∧ ∀ j, j < N → defaultValue (ty j) = vp_V q.2 j) ∧
  ∀ k t, C.2.2.2.2 k = some t → 4 ≤ t ∧ t < 10 ∧ ∃ r : vw_C, vwCl[tcl t]? = some r ∧ Cond.classLink own k r.1 ∈ lw_good
def arOK : Prop := Cond.arrayClass .int ∈ lw_good ∧ Cond.arrayClass .long ∈ lw_good ∧ Cond.arrayClass .char ∈ lw_good ∧ Cond.arrayClass .boolean ∈ lw_good
section
variable {p : Program} {l : Launch} {e : Env} {R : Room} {s : State} {m : MethodId} {args : Array Value} {below : List Frame} {meth : Method} {c : Code}
variable {dC : Nat → ClassId} {dI : Nat → Nat → Nat} {aC : Nat → ClassId} {B nL : Nat} {L0 S0 mc ms : Nat} {o : cO} {cc : ByteArray} {own : String} {rk : Nat}
/-- a new cell at the row's end -/
theorem cW_new {H H1 : Heap} {M : cM} {ce : cE} (hP : va_P (dC, dI) vwCl (cW B aC M) H) (o1 : ∀ q : Nat, q < H.size → H1[q]? = H[q]?) (h : va_at (dC, dI) vwCl (B + M.length, cT B aC ce) H1) : va_P (dC, dI) vwCl (cW B aC (M ++ [ce])) H1 := by
  rw [cW_push]
  refine (hP.kept (fun k x hx => o1 x.1 ((hP k x hx).lt))).app (fun k x hx => ?_)
  have hz : k < 1 := (List.getElem?_eq_some_iff.mp hx).1
  rw [show k = 0 by omega] at hx
  cases hx
  exact h
theorem WA_new {pc pc' : Nat} {vs : List (Option Value)} {st st' : List Value} {M : cM} {ce : cE} (hR : mc ≤ R.cells ∧ ms ≤ R.slots) (hm : mc + L0 = o.2.2.length ∧ ms + S0 = msz o.2.2) (h : WA p l e R s m args below meth c dC dI aC B nL true L0 S0 mc ms o pc' vs (.ref M.length :: st') (M ++ [ce]))
    (hw : ∀ (H : Heap) (locs : List Loc) (ls : Array Slot) (cells slots : Nat) (Q : State → Prop), LV B ls nL vs → va_P (dC, dI) vwCl (cW B aC M) H → H.size = B + M.length → cells + 1 ≤ R.cells → slots + esz ce ≤ R.slots → (∀ H1 : Heap, H1.size = B + M.length + 1 → (∀ q : Nat, q < B + M.length → H1[q]? = H[q]?) → va_at (dC, dI) vwCl (B + M.length, cT B aC ce) H1 → W p l e R s m args below meth c H1 locs (cells + 1) (slots + esz ce) Q (F0 m pc' ls (.ref (B + M.length) :: st'.map (cV B)))) → W p l e R s m args below meth c H locs cells slots Q (F0 m pc ls (st.map (cV B)))) : WA p l e R s m args below meth c dC dI aC B nL true L0 S0 mc ms o pc vs st M := by
  refine ⟨h.1.push, fun H locs ls cells slots hV hP hS hC => ?_⟩
  obtain ⟨hz, h1, h2⟩ := hC.1 rfl
  obtain ⟨g1, g2⟩ := h.1 rfl
  rw [msz_push] at g2
  rw [List.length_append] at g1
  simp only [List.length_cons, List.length_nil] at g1
  refine hw H locs ls cells slots _ hV hP hz (by omega) (by omega) (fun H1 z1 o1 hat => ?_)
  refine h.2 H1 locs ls (cells + 1) (slots + esz ce) hV (cW_new hP (fun q hq => o1 q (by omega)) hat) ⟨Nat.le_trans hS.1 (by omega), fun q h8 h9 => (o1 q (by have := hS.1; omega)).trans (hS.2.1 q h8 h9), hS.2.2⟩ ⟨fun _ => ⟨?_, ?_, ?_⟩, fun q => by cases q⟩
  · rw [List.length_append]; simp only [List.length_cons, List.length_nil]; omega
  · rw [List.length_append]; simp only [List.length_cons, List.length_nil]; omega
  · rw [msz_push]; omega
theorem RA_prim {ty : FieldType} {t : Nat} (hK : va_K (dC, dI) vwCl (cTys aC) s) (ht : (cTys aC)[t]? = some (aC t, ty)) (hty : ∀ C, ty ≠ .object C) {cA : ClassId} (h : s.vm.findClass ("[" ++ ty.toString) = some cA) : cA = aC t := by
  have h1 := (hK.2 t _ ht).2
  cases ty with
  | object C => exact absurd rfl (hty C)
  | _ => exact Option.some.inj (h.symm.trans h1)
theorem al_ok (F : cFix p l R s m args meth c dC dI aC B nL true L0 S0 mc ms o cc own rk) (E : cEnv dC dI aC B s) {C : cP} (hN : nwOK own C) (hA : arOK) {R' : Type} {na : Nat → Nat} {ca : Nat → List Value → cM → (Option Value → cM → Option R') → (Nat → cM → Option R') → Option R'} {th : Nat → Option Nat} {sw : Nat → Option (List (Int32 × Nat) × Nat)} {kr : Option Value → cM → Option R'} {kx : Nat → cM → Option R'} {r : R'}
    (go : Nat → List (Option Value) → List Value → cM → Option R') (hgo : ∀ pc vs st M, go pc vs st M = some r → WA p l e R s m args below meth c dC dI aC B nL true L0 S0 mc ms o pc vs st M) (i : Instr) (pc : Nat) (vs : List (Option Value)) (st : List Value) (M : cM)
    (hi : (∃ k, i = .new k) ∨ (∃ t, i = .newarray t) ∨ (∃ k, i = .anewarray k)) (hd : decode cc pc = .ok (i, ilen i)) (hth : (∃ k, i = .new k) → th pc = none) (h : stp C true rk na ca th sw kr kx go i pc (pc + ilen i) 0 vs st M = some r) : WA p l e R s m args below meth c dC dI aC B nL true L0 S0 mc ms o pc vs st M := by
  obtain ⟨hx, hb, hml, hown, hts, hK, hlocks, hrt, hinit, hB, hmc, hRc, hRs, hext⟩ := F
  rcases hi with ⟨k, rfl⟩ | ⟨t, rfl⟩ | ⟨k, rfl⟩
  · unfold stp at h
    dsimp only at h
    rw [hth ⟨k, rfl⟩] at h
    dsimp only at h
    rw [if_pos rfl] at h
    obtain ⟨q, h1, h2⟩ := Option.bind_eq_some_iff.mp h
    obtain ⟨Cn, T, N, ty, j1, j2, j3, j4, j5, j6, j7, j8⟩ := hN.1 k q h1
    refine WA_new ⟨hRc, hRs⟩ (hmc.1 rfl) (hgo _ _ _ _ h2) (fun H locs ls cells slots Q hV hP hz hc hs kk => ?_)
    have e6 : esz (.inr q : cE) = N := j6
    rw [e6] at hs kk
    have hKn := hK.1 q.1 _ j1
    obtain ⟨hin, -, -⟩ := cls_ok _ (List.mem_of_getElem? j1)
    refine W.newcK (own := own) (C := Cn) hx hb hown (hts _ j2) (hts _ j3) (hts _ j4) rfl hd hc hs hKn.2.1 hz fun H1 kC hkC e1 z1 o1 => ?_
    refine kk H1 z1 o1 ?_
    refine ⟨_, j1, ?_⟩
    show t_OB (B + M.length) (dC q.1) N (dI q.1) H1 (vp_V (q.2.map (cV B)))
    rw [j7]
    exact (u_born ty hts hin hKn hkC e1 j5).to j8
  · unfold stp at h
    dsimp only at h
    split at h
    · next n st' =>
      split at h
      · next hc0 =>
        obtain ⟨-, hn, hN0⟩ := hc0
        split at h
        · refine WA_new ⟨hRc, hRs⟩ (hmc.1 rfl) (hgo _ _ _ _ h) (fun H locs ls cells slots Q hV hP hz hc hs kk => ?_)
          refine va_newaK (atype := .int) hx hb (hts _ hA.1) rfl hd rfl hn rfl (by show _ * 4 ≤ _; omega) hc hs hz fun H1 cA e1 z1 o1 hAr hNm => ?_
          have hcA := RA_prim (t := 0) hK rfl (by intro C q; cases q) hNm
          subst hcA
          exact kk H1 z1 o1 e1
        · refine WA_new ⟨hRc, hRs⟩ (hmc.1 rfl) (hgo _ _ _ _ h) (fun H locs ls cells slots Q hV hP hz hc hs kk => ?_)
          refine va_newaK (atype := .long) hx hb (hts _ hA.2.1) rfl hd rfl hn rfl (by show _ * 8 ≤ _; omega) hc hs hz fun H1 cA e1 z1 o1 hAr hNm => ?_
          have hcA := RA_prim (t := 1) hK rfl (by intro C q; cases q) hNm
          subst hcA
          exact kk H1 z1 o1 e1
        · refine WA_new ⟨hRc, hRs⟩ (hmc.1 rfl) (hgo _ _ _ _ h) (fun H locs ls cells slots Q hV hP hz hc hs kk => ?_)
          refine va_newaK (atype := .char) hx hb (hts _ hA.2.2.1) rfl hd rfl hn rfl (by show _ * 2 ≤ _; omega) hc hs hz fun H1 cA e1 z1 o1 hAr hNm => ?_
          have hcA := RA_prim (t := 2) hK rfl (by intro C q; cases q) hNm
          subst hcA
          exact kk H1 z1 o1 e1
        · refine WA_new ⟨hRc, hRs⟩ (hmc.1 rfl) (hgo _ _ _ _ h) (fun H locs ls cells slots Q hV hP hz hc hs kk => ?_)
          refine va_newaK (atype := .boolean) hx hb (hts _ hA.2.2.2) rfl hd rfl hn rfl (by show _ * 1 ≤ _; omega) hc hs hz fun H1 cA e1 z1 o1 hAr hNm => ?_
          have hcA := RA_prim (t := 3) hK rfl (by intro C q; cases q) hNm
          subst hcA
          exact kk H1 z1 o1 e1
        · cases h
      · cases h
    · cases h
  · unfold stp at h
    dsimp only at h
    split at h
    · next n st' =>
      split at h
      · next hc0 =>
        obtain ⟨-, hn, hN0⟩ := hc0
        obtain ⟨t, h1, h2⟩ := Option.bind_eq_some_iff.mp h
        obtain ⟨g1, g2, r0, g3, g4⟩ := hN.2 k t h1
        refine WA_new ⟨hRc, hRs⟩ (hmc.1 rfl) (hgo _ _ _ _ h2) (fun H locs ls cells slots Q hV hP hz hc hs kk => ?_)
        obtain ⟨r1, k1, k2⟩ := c_tys (aC := aC) g1 g2
        have hr : r1 = r0 := Option.some.inj (k1.symm.trans g3)
        subst hr
        have hAO : va_AO r1.1 s := by
          have hm : r1.1 ∈ [RX1, RX4, RX5, RX6, RX9, RX10] := by
            have : t = 4 ∨ t = 5 ∨ t = 6 ∨ t = 7 ∨ t = 8 ∨ t = 9 := by omega
            rcases this with rfl | rfl | rfl | rfl | rfl | rfl <;> (cases Option.some.inj k1; simp)
          exact E.2.2.1 _ hm
        refine W.anew hx hb hown (hts _ g4) (va_AO.use hAO) rfl hd rfl hn (by omega) hc hs fun cA kA comp f1 f2 f3 f4 => ?_
        obtain ⟨kA0, comp0, a1, a2, a3, a4⟩ := (hK.2 t _ k2).2
        have hcA : cA = aC t := Option.some.inj (f1.symm.trans a4)
        subst hcA
        rw [hz]
        refine kk _ (by rw [Array.size_push, hz]) (fun q hq => by rw [Array.getElem?_push, if_neg (by omega)]) ?_
        show (H.push _)[B + M.length]? = some (vp_cell (aC t) (n.toNatClampNeg, .inr (.inr (.inr (.inr (fun _ => none))))))
        rw [← hz, Array.getElem?_push_size, vp_cell_q, arrV_new]
        rfl
      · cases h
    · cases h
end
/-- a constructor's start -/
def cSI (dC : Nat → ClassId) (dI : Nat → Nat → Nat) (aC : Nat → ClassId) (B : Nat) (M : cM) (U : State) : Prop := cS dC dI aC B true M U ∧ ∀ w ∈ lw_nst, va_Nw w U
theorem cSI_blind {dC : Nat → ClassId} {dI : Nat → Nat → Nat} {aC : Nat → ClassId} {B : Nat} {M : cM} {as : List Value} : FrameBlind (va_Pc as (cSI dC dI aC B M)) := fun a U g mk q => ⟨q.1, ⟨q.2.1.1.calling g mk a, q.2.1.2.1, q.2.1.2.2⟩, fun w hw => by
  have h1 := (List.mem_filter.mp hw).2
  have h2 := q.2.2 w hw
  split at h1
  · exact va_Nw.same rfl (u := U) rfl h2
  · cases h1⟩
/-- THE CONTRACT OF A CONSTRUCTOR: from the cells M it comes to the cells M' -/
def CI (q : cL) (y : MethodName) (w : Cond) (d : Nat) (as : List Value) (M M' : cM) : Prop :=
  vx_Met q.1 y (w :: lw_good) (rmd d (M'.length - M.length) (msz M' - msz M)) (va_Pc (as.map (cV q.2.2.2.2)) (cSI q.2.1 q.2.2.1 q.2.2.2.1 q.2.2.2.2 M)) (cQ q.2.1 q.2.2.1 q.2.2.2.1 q.2.2.2.2 true (0, none, M')) (cXq q.2.1 q.2.2.1 q.2.2.2.1 q.2.2.2.2 (0, none, M')) (M'.length - M.length) (msz M' - msz M) (fun a => q.2.2.2.2 ≤ a)
section
variable {p : Program} {l : Launch} {e : Env} {R : Room} {s : State} {m : MethodId} {args : Array Value} {below : List Frame} {meth : Method} {c : Code}
variable {dC : Nat → ClassId} {dI : Nat → Nat → Nat} {aC : Nat → ClassId} {B nL : Nat} {L0 S0 mc ms : Nat} {o : cO} {cc : ByteArray} {own : String} {rk : Nat}
/-- behind a call of a constructor -/
theorem call_endI (hmc : mc + L0 = o.2.2.length ∧ ms + S0 = msz o.2.2) (hR : mc ≤ R.cells ∧ ms ≤ R.slots) {M M' : cM} (hl : M.length ≤ M'.length ∧ msz M ≤ msz M') {pc : Nat} {vs : List (Option Value)} {st0 rest : List Value} {a : Array Value}
    (hr : ∀ (H : Heap) (locs : List Loc) (ls : Array Slot) (cells slots : Nat), LV B ls nL vs → va_P (dC, dI) vwCl (cW B aC M) H → va_S (fun q => B ≤ q) s.heap H locs → H.size = B + M.length → cells + (M'.length - M.length) ≤ R.cells ∧ slots + (msz M' - msz M) ≤ R.slots → vx_Run p l e R s m args below meth c H locs cells slots (M'.length - M.length) (msz M' - msz M) (F0 m pc ls (st0.map (cV B))) (rest.map (cV B)) (cQ dC dI aC B true (0, none, M') a) (cXq dC dI aC B (0, none, M')) (fun q => B ≤ q))
    (hN : WA p l e R s m args below meth c dC dI aC B nL true L0 S0 mc ms o (pc + 3) vs rest M') : WA p l e R s m args below meth c dC dI aC B nL true L0 S0 mc ms o pc vs st0 M := by
  have hm := hN.1 rfl
  refine ⟨fun _ => ⟨by omega, by omega⟩, fun H locs ls cells slots hV hP hS hC T hT X => ?_⟩
  obtain ⟨hz, c1, c2⟩ := hC.1 rfl
  rcases hr H locs ls cells slots hV hP hS hz ⟨by omega, by omega⟩ T hT X with ⟨v, st₀, t, T', L, h0, X', hL, e1, e2, ⟨⟨ho, hv, hP1, hz1⟩, hF⟩, st⟩ | ⟨q, st₀, t, T', L, E, ce, h0, X', hL, e1, e2, ⟨⟨ho, -, -⟩, -⟩, -⟩
  · cases hv
    obtain ⟨t2, a1, b1⟩ := hN.2 T'.heap (locs ++ L) ls (cells + (M'.length - M.length)) (slots + (msz M' - msz M)) hV (by rw [e1]; exact hP1) (va_S_join hS h0 e1 hL hF) ⟨fun _ => ⟨by rw [e1]; exact hz1 rfl, by omega, by omega⟩, fun q => by cases q⟩ T' rfl X'
    exact ⟨t2, st t2 a1, b1⟩
  · exact absurd rfl ho
theorem CI_of {q : cL} {y : MethodName} {cc : ByteArray} {nL D : Nat} {own : String} {as : List Value} {M M' : cM} (hy : plainName y.cls = true) (hown : y.cls = own) (hin : y.name = "<init>") (hn : (argV as).length ≤ nL) (hl : M.length ≤ M'.length ∧ msz M ≤ msz M')
    (h : ∀ (p : Program) (e : Env) (s : State) (m : MethodId) (args : Array Value) (below : List Frame) (meth : Method) (c : Code), cFix p q.1 (rmd D (M'.length - M.length) (msz M' - msz M)) s m args meth c q.2.1 q.2.2.1 q.2.2.2.1 q.2.2.2.2 nL true M.length (msz M) (M'.length - M.length) (msz M' - msz M) (0, none, M') cc own 5 → cEnv q.2.1 q.2.2.1 q.2.2.2.1 q.2.2.2.2 s → (∀ w ∈ lw_nst, va_Nw w s) →
      WA p q.1 e (rmd D (M'.length - M.length) (msz M' - msz M)) s m args below meth c q.2.1 q.2.2.1 q.2.2.2.1 q.2.2.2.2 nL true M.length (msz M) (M'.length - M.length) (msz M' - msz M) (0, none, M') 0 (ent as nL) [] M) : CI q y (.code y cc nL none) D as M M' := by
  obtain ⟨l, dC, dI, aC, B⟩ := q
  refine vx_ofW (cc := cc) (maxL := nL) (ret := none) hy rfl ?_
  intro p e s m args below meth c s₁ Bd hml hext hv
  obtain ⟨rfl, ⟨hE, hP, hz⟩, hns⟩ := hv
  have hts : ∀ w ∈ (Cond.code y cc nL none :: lw_good), w.before _ s = true := atoms_spec (ws := Cond.code y cc nL none :: lw_good) Bd.pre
  have F : cFix p l (rmd D (M'.length - M.length) (msz M' - msz M)) s m (as.map (cV B)).toArray meth c dC dI aC B nL true M.length (msz M) (M'.length - M.length) (msz M' - msz M) (0, none, M') cc own 5 := by
    refine ⟨Bd.exec, Bd.bytes, hml, ?_, fun w hw => hts w (List.mem_cons_of_mem _ hw), hE.1, Bd.notSynchronized, by rw [Bd.returns]; rfl, fun _ => ((name_of_methodNamed Bd.named Bd.method).1).trans hin, hE.2.1, ⟨fun _ => ⟨by dsimp only; omega, by dsimp only; omega⟩, fun q => absurd q (by decide)⟩, Nat.le_refl _, Nat.le_refl _, fun _ => hext⟩
    rw [← hown]
    exact findClass_of_methodNamed Bd.named
  rw [lg_entry_eq]
  exact (h p e s m _ below meth c F hE hns).2 s.heap [] _ 0 0 (ent_LV hn) hP va_S.rf ⟨fun q => ⟨hz q, by omega, by omega⟩, fun q => by cases q⟩
end
/-- a constructor that is called, as the table of calls has it -/
def ceI (q : cL) (own : String) (d k' : Nat) {R' : Type} (fn : cFn R') : Prop := ∀ as M κ κx r, fn as M κ κx = some r → ∃ (a : Nat) (M' : cM), as = [.ref a] ∧ κ none M' = some r ∧
  ((∃ k, k' = 3 * k + 2 ∧ M' = M ∧ ∀ w ∈ [Cond.methodLink own k Lib.objectInit, .instanceMethod Lib.objectInit, .code Lib.objectInit ⟨#[0xb1]⟩ 1 none], w ∈ lw_good) ∨
   (∃ y bytes maxL k host, k' = 3 * k + 2 ∧ CI q y (.code y bytes maxL none) d [.ref a] M M' ∧ (M.length ≤ M'.length ∧ msz M ≤ msz M') ∧ (Cond.methodLinkNest own k y host ∈ lw_nst ∨ Cond.methodLink own k y ∈ lw_good) ∧ (∀ w ∈ [Cond.instanceMethod y, .initialized y.cls, .code y bytes maxL none], w ∈ lw_good) ∧ y.name = "<init>" ∧ (y.cls ≠ "java/lang/invoke/MethodHandle" ∧ y.cls ≠ "java/lang/invoke/VarHandle" ∧ (parseMethodDescriptor y.desc).map (fun d => d.parameters.length) = some 0) ∧ maxL ≤ 30))
section
variable {p : Program} {l : Launch} {e : Env} {R : Room} {s : State} {m : MethodId} {args : Array Value} {below : List Frame} {meth : Method} {c : Code}
variable {dC : Nat → ClassId} {dI : Nat → Nat → Nat} {aC : Nat → ClassId} {B nL : Nat} {L0 S0 mc ms : Nat} {o : cO} {cc : ByteArray} {own : String} {rk D : Nat}
theorem caI_ok (F : cFix p l R s m args meth c dC dI aC B nL true L0 S0 mc ms o cc own rk) (E : cEnv dC dI aC B s) (hns : ∀ w ∈ lw_nst, va_Nw w s) (hRf : R.frames = D) (hRl : R.locals = 60 * D) {R' : Type} {ca : List (Nat × cFn R')} (hca : ∀ x ∈ ca, 1 ≤ D ∧ ceI (l, dC, dI, aC, B) own (D - 1) x.1 x.2) {kx : Nat → cM → Option R'} {r : R'} (pc : Nat) (i : Instr) (k' : Nat) (vs : List (Option Value)) (as rest : List Value) (M : cM) (κ : Option Value → cM → Option R')
    (hi : ∃ k, (i = Instr.invokestatic k ∧ k' = 3 * k) ∨ (i = .invokevirtual k ∧ k' = 3 * k + 1) ∨ (i = .invokespecial k ∧ k' = 3 * k + 2)) (hdg : decode cc pc = .ok (i, 3)) (hcat : (rest.map Value.category).sum ≤ 8) (h : caL ca k' as M κ kx = some r) (hk : ∀ v M', κ v M' = some r → WA p l e R s m args below meth c dC dI aC B nL true L0 S0 mc ms o (pc + 3) vs (v.toList ++ rest) M') : WA p l e R s m args below meth c dC dI aC B nL true L0 S0 mc ms o pc vs (as.reverse ++ rest) M := by
  have hcat' : ((rest.map (cV B)).map fun v => v.category).sum ≤ 8 := by
    rw [List.map_map]
    have : (fun v : Value => v.category) ∘ cV B = Value.category := funext (cV_cat B)
    rw [this]
    exact hcat
  unfold caL at h
  split at h
  · next f hf =>
    obtain ⟨hD1, hce⟩ := hca _ (lkN_mem hf)
    obtain ⟨a, M', rfl, hκ, hh⟩ := hce as M κ kx r h
    have hN := hk _ _ hκ
    obtain ⟨hx, hb, hml, hown, hts, hK, hlocks, hrt, hinit, hB, hmc, hRc, hRs, hext⟩ := id F
    rcases hh with ⟨k, e1, rfl, hw⟩ | ⟨y, bytes, maxL, k, host, e1, hM, hl, hnw, hw, hin, hd, hm⟩
    · obtain ⟨k0, hi⟩ := hi
      rcases hi with ⟨rfl, e2⟩ | ⟨rfl, e2⟩ | ⟨rfl, e2⟩
      · exact absurd (e1.symm.trans e2) (by clear hw hcat hcat'; omega)
      · exact absurd (e1.symm.trans e2) (by clear hw hcat hcat'; omega)
      · have : k0 = k := by have e3 := e1.symm.trans e2; clear hw hcat hcat'; omega
        subst this
        refine ⟨hN.1, fun H locs ls cells slots hV hP hS hC => ?_⟩
        refine W.objInit (own := own) hx hb hown (hts _ (hw _ (by simp))) (hts _ (hw _ (by simp))) (hts _ (hw _ (by simp))) rfl (hV.1.trans hml.symm) rfl hdg (by rw [hRf]; exact hD1) ?_ (hN.2 H locs ls cells slots hV hP hS hC)
        have h9 : (List.map (fun v => v.category) (List.map (cV B) ([].append rest))).sum ≤ 8 := hcat'
        show 2 * 0 + _ + 12 ≤ _
        rw [hRl]
        omega
    · obtain ⟨k0, hi⟩ := hi
      rcases hi with ⟨rfl, e2⟩ | ⟨rfl, e2⟩ | ⟨rfl, e2⟩
      · exact absurd (e1.symm.trans e2) (by clear hw hd hcat hcat'; omega)
      · exact absurd (e1.symm.trans e2) (by clear hw hd hcat hcat'; omega)
      · have : k0 = k := by have e3 := e1.symm.trans e2; clear hw hd hcat hcat'; omega
        subst this
        refine call_endI (a := (Value.ref (B + a) :: ([] : List Value)).toArray) (hmc.1 rfl) ⟨hRc, hRs⟩ hl (fun H locs ls cells slots hV hP hS hz hf => ?_) hN
        have hG : GoodIn lw_good (Cond.code y bytes maxL none :: lw_good) := good_sub (fun w h => by
          rcases List.mem_cons.mp h with rfl | h
          · exact hw _ (by simp)
          · exact h)
        have hRR : (rmd (D - 1) (M'.length - M.length) (msz M' - msz M)).frames + 1 ≤ R.frames ∧ 8 + (maxL + 11) + (rmd (D - 1) (M'.length - M.length) (msz M' - msz M)).locals ≤ R.locals := by
          refine ⟨?_, ?_⟩
          · show D - 1 + 1 ≤ R.frames
            omega
          · show 8 + (maxL + 11) + 60 * (D - 1) ≤ R.locals
            omega
        have hPre : PreS s H (va_Pc (([.ref a] : List Value).map (cV B)) (cSI dC dI aC B M)) (Value.ref (B + a) :: ([] : List Value)) := ⟨cSI_blind, fun U hU hW => ⟨rfl, ⟨E.to hS hU hW, by rw [hU]; exact hP, fun _ => by rw [hU]; exact hz⟩, fun w hw => nst_warm hw hW (hns w hw)⟩⟩
        rcases hnw with hnw | hnw
        · exact vx_runIN (b := B + a) (As := []) (n := 0) ⟨hx, hb, hml, hown, hts⟩ hM ⟨va_cnB 0 hts hG rfl rfl rfl (hns _ hnw) (hts _ (hw _ (by simp))) hd hRR, hin, hts _ (hw _ (by simp))⟩ hPre rfl rfl hV.1 rfl (lv_room hcat') hdg hf
        · exact vx_runI (b := B + a) (As := []) (n := 0) ⟨hx, hb, hml, hown, hts⟩ hM (cwI 0 hts hG rfl rfl rfl (hts _ (hw _ (by simp))) (hts _ hnw) (hts _ (hw _ (by simp))) hin hd hRR) hPre rfl rfl hV.1 rfl (lv_room hcat') hdg hf
  · cases h
theorem segI_ok {q : cL} {y : MethodName} {cc : ByteArray} {nL D : Nat} {own : String} {M0 M1 : cM} (hl : M0.length ≤ M1.length ∧ msz M0 ≤ msz M1) {R' : Type} {C : cP} (hC : pOK own C) (hnw : nwOK own C) (hA : arOK) {T : List cRow} (hT : T.all (rowB cc) = true) {na : List (Nat × Nat)} {ca : List (Nat × cFn R')} (hca : ∀ x ∈ ca, 1 ≤ D ∧ ceI q own (D - 1) x.1 x.2) {kr : Option Value → cM → Option R'} {kx : Nat → cM → Option R'} {sp : List Nat} {K : List (Nat × cKf R')} {r : R'}
    (hkr : ∀ v M, kr v M = some r → ((0, none, M1) : cO) = (0, v, M)) {p : Program} {e : Env} {s : State} {m : MethodId} {args : Array Value} {below : List Frame} {meth : Method} {c : Code} (F : cFix p q.1 (rmd D (M1.length - M0.length) (msz M1 - msz M0)) s m args meth c q.2.1 q.2.2.1 q.2.2.2.1 q.2.2.2.2 nL true M0.length (msz M0) (M1.length - M0.length) (msz M1 - msz M0) (0, none, M1) cc own 5) (E : cEnv q.2.1 q.2.2.1 q.2.2.2.1 q.2.2.2.2 s) (hns : ∀ w ∈ lw_nst, va_Nw w s)
    (hK : ∀ x ∈ K, ∀ vs st M, x.2 vs st M = some r → WA p q.1 e (rmd D (M1.length - M0.length) (msz M1 - msz M0)) s m args below meth c q.2.1 q.2.2.1 q.2.2.2.1 q.2.2.2.2 nL true M0.length (msz M0) (M1.length - M0.length) (msz M1 - msz M0) (0, none, M1) x.1 vs st M)
    {n pc : Nat} {vs : List (Option Value)} {st : List Value} {M : cM} (h : run T C true 5 (naL na) (caL ca) (lkN []) (lkN []) kr kx (spL sp) (KL K) n pc vs st M = some r) : WA p q.1 e (rmd D (M1.length - M0.length) (msz M1 - msz M0)) s m args below meth c q.2.1 q.2.2.1 q.2.2.2.1 q.2.2.2.2 nL true M0.length (msz M0) (M1.length - M0.length) (msz M1 - msz M0) (0, none, M1) pc vs st M := by
  obtain ⟨l, dC, dI, aC, B⟩ := q
  exact run_ok (na := naL na) (ca := caL ca) (th := lkN []) (sw := lkN []) (kr := kr) (kx := kx) (sp := spL sp) (K := KL K) (tb := T) F hC
    (fun pc vs st M h => by
      unfold KL at h
      split at h
      · next f hf => exact hK _ (lkN_mem hf) _ _ _ h
      · cases h) hkr (fun _ _ _ _ _ _ h _ => by cases h) (fun _ _ h => by cases h) (fun pc i k' vs as rest M κ hi hdg hcat hlen h hk => caI_ok F E hns rfl rfl hca pc i k' vs as rest M κ hi hdg hcat h hk) (fun _ go hgo i pc vs st M hi hd hth h => al_ok F E hnw hA go hgo i pc vs st M hi hd hth h) hT n pc vs st M h
end
/-- from here the constructor comes to its end with the cells M1 -/
def WI (q : cL) (D nL : Nat) (M0 M1 : cM) (cc : ByteArray) (own : String) (pc : Nat) (vs : List (Option Value)) (st : List Value) (M : cM) : Prop :=
  ∀ (p : Program) (e : Env) (s : State) (m : MethodId) (args : Array Value) (below : List Frame) (meth : Method) (c : Code), cFix p q.1 (rmd D (M1.length - M0.length) (msz M1 - msz M0)) s m args meth c q.2.1 q.2.2.1 q.2.2.2.1 q.2.2.2.2 nL true M0.length (msz M0) (M1.length - M0.length) (msz M1 - msz M0) (0, none, M1) cc own 5 → cEnv q.2.1 q.2.2.1 q.2.2.2.1 q.2.2.2.2 s → (∀ w ∈ lw_nst, va_Nw w s) →
    WA p q.1 e (rmd D (M1.length - M0.length) (msz M1 - msz M0)) s m args below meth c q.2.1 q.2.2.1 q.2.2.2.1 q.2.2.2.2 nL true M0.length (msz M0) (M1.length - M0.length) (msz M1 - msz M0) (0, none, M1) pc vs st M
theorem WI_weak {q : cL} {D nL : Nat} {M0 M1 : cM} {cc : ByteArray} {own : String} {pc : Nat} {vs0 vs : List (Option Value)} {st : List Value} {M : cM} (h : WI q D nL M0 M1 cc own pc vs0 st M) (hl : vs0.length = nL) (hc : cov 0 vs0 vs) : WI q D nL M0 M1 cc own pc vs st M := fun p e s m args below meth c F E hns =>
  ⟨(h p e s m args below meth c F E hns).1, fun H locs ls cells slots hV => (h p e s m args below meth c F E hns).2 H locs ls cells slots (LV_weak hV (hl.trans hV.2.2.1.symm) (fun i v hi => by have := cov_of vs0 vs 0 hc i v hi; rw [Nat.zero_add] at this; exact this))⟩
theorem segW_ok {q : cL} {cc : ByteArray} {nL D : Nat} {own : String} {M0 M1 : cM} (hl : M0.length ≤ M1.length ∧ msz M0 ≤ msz M1) {C : cP} (hC : pOK own C) (hnw : nwOK own C) (hA : arOK) {T : List cRow} (hT : T.all (rowB cc) = true) {na : List (Nat × Nat)} {ca : List (Nat × cFn cM)} (hca : ∀ x ∈ ca, 1 ≤ D ∧ ceI q own (D - 1) x.1 x.2) {sp : List Nat} {K : List (Nat × cKf cM)}
    (hK : ∀ x ∈ K, ∀ vs st M, x.2 vs st M = some M1 → WI q D nL M0 M1 cc own x.1 vs st M) {n pc : Nat} {vs : List (Option Value)} {st : List Value} {M : cM} (h : run T C true 5 (naL na) (caL ca) (lkN []) (lkN []) krV kxN (spL sp) (KL K) n pc vs st M = some M1) : WI q D nL M0 M1 cc own pc vs st M := fun p e s m args below meth c F E hns =>
  segI_ok (y := ⟨own, "<init>", "()V"⟩) hl hC hnw hA hT hca (fun v M h => krV_ok v M h) F E hns (fun x hx vs st M h => hK x hx vs st M h p e s m args below meth c F E hns) h
theorem CI_ofW {q : cL} {y : MethodName} {cc : ByteArray} {nL D : Nat} {own : String} {as : List Value} {M M' : cM} (hy : plainName y.cls = true) (hown : y.cls = own) (hin : y.name = "<init>") (hn : (argV as).length ≤ nL) (hl : M.length ≤ M'.length ∧ msz M ≤ msz M') (h : WI q D nL M M' cc own 0 (ent as nL) [] M) : CI q y (.code y cc nL none) D as M M' :=
  CI_of hy hown hin hn hl (fun p e s m args below meth c F E hns => h p e s m args below meth c F E hns)
def ckm {α : Type} (M M' : cM) (k : Option α) : Option α := if M.length ≤ M'.length ∧ msz M ≤ msz M' then k else none
def n_obj {R' : Type} : cFn R' := fun as M κ _ => match as with
  | [.ref _] => κ none M
  | _ => none
theorem n_obj_ok {R' : Type} {q : cL} {own : String} {d k : Nat} (hw : ∀ w ∈ [Cond.methodLink own k Lib.objectInit, .instanceMethod Lib.objectInit, .code Lib.objectInit ⟨#[0xb1]⟩ 1 none], w ∈ lw_good) : ceI q own d (3 * k + 2) (n_obj (R' := R')) := by
  intro as M κ κx r h
  unfold n_obj at h
  split at h
  · next a => exact ⟨a, M, rfl, h, Or.inl ⟨k, rfl, rfl, hw⟩⟩
  · cases h
def n_ini {R' : Type} (f : Nat → cM → Option cM) : cFn R' := fun as M κ _ => match as with
  | [.ref a] => (f a M).bind fun M' => ckm M M' (κ none M')
  | _ => none
theorem n_ini_ok {R' : Type} {q : cL} {own host : String} {d k maxL : Nat} {y : MethodName} {bytes : ByteArray} {f : Nat → cM → Option cM} (hf : ∀ a M M', (M.length ≤ M'.length ∧ msz M ≤ msz M') → f a M = some M' → CI q y (.code y bytes maxL none) d [.ref a] M M') (hl : Cond.methodLinkNest own k y host ∈ lw_nst ∨ Cond.methodLink own k y ∈ lw_good) (hw : ∀ w ∈ [Cond.instanceMethod y, .initialized y.cls, .code y bytes maxL none], w ∈ lw_good) (hin : y.name = "<init>") (hd : y.cls ≠ "java/lang/invoke/MethodHandle" ∧ y.cls ≠ "java/lang/invoke/VarHandle" ∧ (parseMethodDescriptor y.desc).map (fun d => d.parameters.length) = some 0) (hm : maxL ≤ 30) : ceI q own d (3 * k + 2) (n_ini (R' := R') f) := by
  intro as M κ κx r h
  unfold n_ini at h
  split at h
  · next a =>
    obtain ⟨M', h1, h2⟩ := Option.bind_eq_some_iff.mp h
    unfold ckm at h2
    split at h2
    · next hc => exact ⟨a, M', rfl, h2, Or.inr ⟨y, bytes, maxL, k, host, rfl, hf a M M' hc h1, hc, hl, hw, hin, hd, hm⟩⟩
    · cases h2
  · cases h
