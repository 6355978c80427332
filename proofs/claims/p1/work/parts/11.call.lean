/-! CONTRACTS: what a method does in the pure machine, it does; calls; throws -/
def lw_dcl : List Cond := lw_tbl.filter (fun w => match w with
  | .declares _ => true
  | .castable _ _ => true
  | _ => false)
theorem dcl_warm {w : Cond} (hw : w ∈ lw_dcl) {s U : State} {a a' : Array Value} (hW : s.vm.Alike U.vm) (h : w.before a s = true) : w.before a' U = true := by
  have h1 := (List.mem_filter.mp hw).2
  split at h1
  · exact va_tabs rfl (rfl : (s.setVm U.vm).vm = U.vm) (by rw [Cond.declares_setVm hW]; exact h)
  · exact va_tabs rfl (rfl : (s.setVm U.vm).vm = U.vm) (by rw [Cond.castable_setVm hW]; exact h)
  · cases h1
def cStrs : List (String × Nat × String) := [(RX11, 59, "texts have no such sign"), (RX11, 70, "the draft is full"), (RX11, 79, "there are as many lines as there may be"), (RX11, 88, "there would be too many runs"), (RX11, 277, "there is no such line"), (RX11, 114, "the text has no such sign"), (RX11, 121, "there is no such spot"), (RX11, 275, "there is no such task"), (RX11, 130, "nothing is shown"), (RX11, 135, "the task has as many examples as it may have"), (RX11, 141, "the task has an example on this line"), (RX11, 163, "nothing is made that could be refused"), (RX11, 168, "the task has as many refusals as it may have"), (RX11, 174, "a program has no such place"), (RX11, 176, "there is no such kind of atoms"), (RX11, 187, "there is no such atom"), (RX11, 189, "the draft is no CONST"), (RX11, 202, "the task has no examples"), (RX11, 224, "not so many programs count"), (RX11, 240, "an atom has no such number"), (RX11, 257, "a text has no such place"), (RX11, 259, "there is no such run"), (RX11, 261, "the task has learnt nothing"), (RX11, 263, "there were as many runs as there may be")]
/-- what stays true from the law's start on -/
def cEnv (dC : Nat → ClassId) (dI : Nat → Nat → Nat) (aC : Nat → ClassId) (B : Nat) (U : State) : Prop :=
  va_K (dC, dI) vwCl (cTys aC) U ∧ B ≤ U.heap.size ∧ (∀ C ∈ [RX1, RX4, RX5, RX6, RX9, RX10], va_AO C U) ∧ (∀ w ∈ lw_dcl, w.before #[] U = true) ∧ (∀ q ∈ cStrs, ∃ sa, vk_R q.1 q.2.1 q.2.2 sa U) ∧ vx_Zq Bundle.tN "UNASSIGNED_STACK" Bundle.steD (fun q => B ≤ q) U U.heap ∧ vx_Zq Bundle.tN "SUPPRESSED_SENTINEL" Bundle.listD (fun q => B ≤ q) U U.heap ∧ (∀ a ∈ [1, 2, 3], ∀ b ∈ [1, 2, 3], a ≠ b → va_Nc (eName a) (eName b) U)
theorem cEnv.to {dC : Nat → ClassId} {dI : Nat → Nat → Nat} {aC : Nat → ClassId} {B : Nat} {s U : State} {H : Heap} {locs : List Loc} (E : cEnv dC dI aC B s) (hS : va_S (fun q => B ≤ q) s.heap H locs) (hU : U.heap = H) (hW : s.WarmedH U.vm) : cEnv dC dI aC B U := by
  obtain ⟨h1, h2, h3, h4, h5, h6, h7, h8⟩ := E
  refine ⟨va_K.moved hW.alike h1, by rw [hU]; exact Nat.le_trans h2 hS.1, fun C hC => va_AO.moved hW.alike (h3 C hC), fun w hw => dcl_warm hw hW.alike (h4 w hw), fun q hq => ?_, ?_, ?_, fun a ha b hb hab => va_Nc.moved hW.alike (h8 a ha b hb hab)⟩
  · obtain ⟨sa, h⟩ := h5 q hq
    exact ⟨sa, vk_R.warm hW h⟩
  · rw [hU]
    exact vx_Zq.kept (vx_Zq.moved hW.alike h6) hS.2.1
  · rw [hU]
    exact vx_Zq.kept (vx_Zq.moved hW.alike h7) hS.2.1
theorem cEnv.calling {dC : Nat → ClassId} {dI : Nat → Nat → Nat} {aC : Nat → ClassId} {B : Nat} {U : State} (E : cEnv dC dI aC B U) (g : JFrame) (mk : MethodId) (a : Array Value) : cEnv dC dI aC B (U.calling g mk a) := by
  obtain ⟨h1, h2, h3, h4, h5, h6, h7, h8⟩ := E
  have hA : U.vm.Alike (U.calling g mk a).vm := Vm.Alike.refl U.vm
  exact ⟨va_K.moved (u := U) hA h1, h2, fun C hC => va_AO.moved (u := U) hA (h3 C hC), fun w hw => dcl_warm hw (s := U) hA (h4 w hw), fun q hq => by obtain ⟨sa, h⟩ := h5 q hq; exact ⟨sa, vk_R.same (u := U) rfl h⟩, vx_Zq.moved (u := U) hA h6, vx_Zq.moved (u := U) hA h7, fun a ha b hb hab => va_Nc.moved (u := U) hA (h8 a ha b hb hab)⟩
/-- a contract's start -/
def cS (dC : Nat → ClassId) (dI : Nat → Nat → Nat) (aC : Nat → ClassId) (B : Nat) (md : Bool) (M : cM) (U : State) : Prop := cEnv dC dI aC B U ∧ va_P (dC, dI) vwCl (cW B aC M) U.heap ∧ (md = true → U.heap.size = B + M.length)
def mcO (md : Bool) (M : cM) (o : cO) : Nat := if md = true then o.2.2.length - M.length else if o.1 = 0 then 0 else 1
def msO (md : Bool) (M : cM) (o : cO) : Nat := if md = true then msz o.2.2 - msz M else if o.1 = 0 then 0 else 6
def rmd (d mc ms : Nat) : Room := { frames := d, cells := mc, slots := ms, locals := 60 * d }
/-- THE CONTRACT: from the cells M with these arguments the method ends with o -/
def CT (l : Launch) (dC : Nat → ClassId) (dI : Nat → Nat → Nat) (aC : Nat → ClassId) (B : Nat) (md : Bool) (y : MethodName) (w : Cond) (d : Nat) (as : List Value) (M : cM) (o : cO) : Prop :=
  vx_Met l y (w :: lw_good) (rmd d (mcO md M o) (msO md M o)) (va_Pc (as.map (cV B)) (cS dC dI aC B md M)) (cQ dC dI aC B md o) (cXq dC dI aC B o) (mcO md M o) (msO md M o) (fun q => B ≤ q)
theorem cS_blind {dC : Nat → ClassId} {dI : Nat → Nat → Nat} {aC : Nat → ClassId} {B : Nat} {md : Bool} {M : cM} {as : List Value} : FrameBlind (va_Pc as (cS dC dI aC B md M)) := fun a U g mk q => ⟨q.1, q.2.1.calling g mk a, q.2.2.1, q.2.2.2⟩
-- the locals at a method's entry
def argV : List Value → List (Option Value)
  | [] => []
  | v :: r => if v.category = 2 then some v :: none :: argV r else some v :: argV r
def ent (as : List Value) (n : Nat) : List (Option Value) := argV as ++ List.replicate (n - (argV as).length) none
theorem argV_mem : ∀ (as : List Value) (B i j : Nat) (v : Value), (argV as)[i]? = some (some v) → (j + i, cV B v) ∈ lv_args j (as.map (cV B))
  | [], _, _, _, _, h => by simp [argV] at h
  | w :: r, B, i, j, v, h => by
    unfold argV at h
    show _ ∈ (j, cV B w) :: lv_args (if (cV B w).category = 2 then j + 2 else j + 1) (r.map (cV B))
    rw [cV_cat]
    by_cases hc : w.category = 2
    · rw [if_pos hc] at h
      rw [if_pos hc]
      match i, h with
      | 0, h => simp at h; subst h; exact List.mem_cons_self
      | 1, h => simp at h
      | i + 2, h =>
        have h := argV_mem r B i (j + 2) v (by simpa using h)
        rw [show j + (i + 2) = j + 2 + i by omega]
        exact List.mem_cons_of_mem _ h
    · rw [if_neg hc] at h
      rw [if_neg hc]
      match i, h with
      | 0, h => simp at h; subst h; exact List.mem_cons_self
      | i + 1, h =>
        have h := argV_mem r B i (j + 1) v (by simpa using h)
        rw [show j + (i + 1) = j + 1 + i by omega]
        exact List.mem_cons_of_mem _ h
theorem argV_len (B : Nat) : ∀ as : List Value, (argV as).length = (lg_sl (as.map (cV B))).length
  | [] => rfl
  | w :: r => by
    have ih := argV_len B r
    unfold argV
    have e : lg_sl ((w :: r).map (cV B)) = (if (cV B w).category = 2 then [Slot.val (cV B w), .second] else [Slot.val (cV B w)]) ++ lg_sl (r.map (cV B)) := by
      simp [lg_sl]
    rw [e, cV_cat]
    by_cases hc : w.category = 2
    · rw [if_pos hc, if_pos hc]
      simp [ih]
    · rw [if_neg hc, if_neg hc]
      simp [ih]
theorem ent_LV {B : Nat} {as : List Value} {n : Nat} (h : (argV as).length ≤ n) : LV B ((lg_sl (as.map (cV B)) ++ List.replicate (n - (lg_sl (as.map (cV B))).length) Slot.unset).toArray) n (ent as n) := by
  have hl := lv_entry (as.map (cV B)) (n := n) (by rw [← argV_len]; exact h)
  refine ⟨hl.1, hl.2.1, ?_, fun i v hi => ?_⟩
  · simp [ent]
    omega
  · unfold ent at hi
    rw [List.getElem?_append] at hi
    split at hi
    · have := argV_mem as B i 0 v hi
      rw [Nat.zero_add] at this
      exact hl.2.2 _ this
    · rw [List.getElem?_replicate] at hi
      split at hi
      · cases hi
      · cases hi
section
variable {l : Launch} {dC : Nat → ClassId} {dI : Nat → Nat → Nat} {aC : Nat → ClassId} {B : Nat} {md : Bool}
/-- a contract out of the walk from the entry -/
theorem CT_of {y : MethodName} {cc : ByteArray} {nL d : Nat} {ret : Option FieldType} {own : String} {rk : Nat} {as : List Value} {M : cM} {o : cO} (hy : plainName y.cls = true) (hown : y.cls = own) (hrt : rtOK rk ret) (hmd : md = true → y.name = "<init>" ∧ M.length ≤ o.2.2.length ∧ msz M ≤ msz o.2.2) (hn : (argV as).length ≤ nL)
    (h : ∀ (p : Program) (e : Env) (s : State) (m : MethodId) (args : Array Value) (below : List Frame) (meth : Method) (c : Code), cFix p l (rmd d (mcO md M o) (msO md M o)) s m args meth c dC dI aC B nL md (cond md M.length 0) (cond md (msz M) 0) (mcO md M o) (msO md M o) o cc own rk → cEnv dC dI aC B s → (md = false → o.1 ≠ 0 → 1 ≤ mcO md M o ∧ 6 ≤ msO md M o) →
      WA p l e (rmd d (mcO md M o) (msO md M o)) s m args below meth c dC dI aC B nL md (cond md M.length 0) (cond md (msz M) 0) (mcO md M o) (msO md M o) o 0 (ent as nL) [] M) : CT l dC dI aC B md y (.code y cc nL ret) d as M o := by
  refine vx_ofW (cc := cc) (maxL := nL) (ret := ret) hy rfl ?_
  intro p e s m args below meth c s₁ Bd hml hext hv
  obtain ⟨rfl, hE, hP, hz⟩ := hv
  have hts : ∀ w ∈ (Cond.code y cc nL ret :: lw_good), w.before _ s = true := atoms_spec (ws := Cond.code y cc nL ret :: lw_good) Bd.pre
  have F : cFix p l (rmd d (mcO md M o) (msO md M o)) s m (as.map (cV B)).toArray meth c dC dI aC B nL md (cond md M.length 0) (cond md (msz M) 0) (mcO md M o) (msO md M o) o cc own rk := by
    refine ⟨Bd.exec, Bd.bytes, hml, ?_, fun w hw => hts w (List.mem_cons_of_mem _ hw), hE.1, Bd.notSynchronized, by rw [Bd.returns]; exact hrt, fun q => ((name_of_methodNamed Bd.named Bd.method).1).trans (hmd q).1, hE.2.1, ⟨fun q => ?_, fun q => by subst q; exact ⟨Nat.zero_le _, Nat.zero_le _⟩⟩, Nat.le_refl _, Nat.le_refl _, fun _ => hext⟩
    · rw [← hown]
      exact findClass_of_methodNamed Bd.named
    · obtain ⟨-, h1, h2⟩ := hmd q
      unfold mcO msO
      rw [if_pos q, if_pos q]
      subst q
      dsimp only [cond]
      omega
  rw [lg_entry_eq]
  have hW := (h p e s m _ below meth c F hE (fun q h9 => by
    unfold mcO msO
    subst q
    simp [h9])).2 s.heap [] _ 0 0 (ent_LV hn) hP va_S.rf ⟨fun q => ⟨hz q, by subst q; exact Nat.zero_add _, by subst q; exact Nat.zero_add _⟩, fun q => by subst q; exact ⟨rfl, rfl⟩⟩
  exact hW
variable {p : Program} {e : Env} {R : Room} {s : State} {m : MethodId} {args : Array Value} {below : List Frame} {meth : Method} {c : Code}
variable {nL : Nat} {L0 S0 mc ms : Nat} {o : cO} {cc : ByteArray} {own : String} {rk : Nat}
theorem va_S_join {H H1 : Heap} {locs L : List Loc} {st₀ t : State} (hS : va_S (fun q => B ≤ q) s.heap H locs) (h0 : st₀.heap = H) (e1 : H1 = t.heap) (hL : ∀ q ∈ L, B ≤ q.base) (hF : va_F (fun q => B ≤ q) st₀ t) : va_S (fun q => B ≤ q) s.heap H1 (locs ++ L) := by
  obtain ⟨hz, hk⟩ := hF
  rw [h0] at hz hk
  refine ⟨by rw [e1]; exact Nat.le_trans hS.1 hz, fun q h1 h2 => by rw [e1, hk q (Nat.lt_of_lt_of_le h1 hS.1) h2]; exact hS.2.1 q h1 h2, fun q hq => ?_⟩
  rcases List.mem_append.mp hq with h | h
  · exact hS.2.2 q h
  · exact hL q h
/-- behind a call that makes nothing -/
theorem call_end (F : cFix p l R s m args meth c dC dI aC B nL false L0 S0 mc ms o cc own rk) (hmc : o.1 ≠ 0 → L0 + 1 ≤ mc ∧ S0 + 6 ≤ ms) {o' : cO} {pc : Nat} {vs : List (Option Value)} {st0 rest : List Value} {M : cM} {a : Array Value} {free : Addr → Prop} (hfree : ∀ q, free q → B ≤ q)
    (hr : ∀ (H : Heap) (locs : List Loc) (ls : Array Slot), LV B ls nL vs → va_P (dC, dI) vwCl (cW B aC M) H → va_S (fun q => B ≤ q) s.heap H locs → vx_Run p l e R s m args below meth c H locs L0 S0 (mcO false M o') (msO false M o') (F0 m pc ls (st0.map (cV B))) (rest.map (cV B)) (cQ dC dI aC B false o' a) (cXq dC dI aC B o') free)
    (hex : o'.1 = 0 → WA p l e R s m args below meth c dC dI aC B nL false L0 S0 mc ms o (pc + 3) vs (o'.2.1.toList ++ rest) o'.2.2) (hxx : o'.1 ≠ 0 → o = (o'.1, none, o'.2.2)) : WA p l e R s m args below meth c dC dI aC B nL false L0 S0 mc ms o pc vs st0 M := by
  obtain ⟨hx, hb, hml, hown, hts, hK, hlocks, hrt, hinit, hB, hmc0, hRc, hRs, hext⟩ := F
  refine ⟨fun q => absurd q (by decide), fun H locs ls cells slots hV hP hS hC T hT X => ?_⟩
  obtain ⟨hc0, hs00⟩ := hC.2 rfl
  subst cells
  subst slots
  rcases hr H locs ls hV hP hS T hT X with ⟨v, st₀, t, T', L, h0, X', hL, e1, e2, ⟨⟨ho, hv, hP1, -⟩, hF⟩, st⟩ | ⟨q, st₀, t, T', L, E, ce, h0, X', hL, e1, e2, ⟨⟨ho, hE, hP1⟩, hF⟩, hce, hcv, hcl, st⟩
  · cases hv
    have hm0 : mcO false M o' = 0 := by unfold mcO; simp [ho]
    have hs0 : msO false M o' = 0 := by unfold msO; simp [ho]
    rw [hm0, hs0] at X'
    obtain ⟨t2, a1, b1⟩ := (hex ho).2 T'.heap (locs ++ L) ls L0 S0 hV (by rw [e1]; exact hP1) (va_S_join hS h0 e1 (fun q hq => hfree _ (hL q hq)) hF) ⟨fun q => absurd q (by decide), fun _ => ⟨rfl, rfl⟩⟩ T' rfl X'
    refine ⟨t2, st t2 ?_, b1⟩
    have e3 : ((o'.2.1.toList ++ rest).map (cV B)) = (o'.2.1.map (cV B)).toList ++ rest.map (cV B) := by
      cases o'.2.1 <;> simp
    rw [e3] at a1
    exact a1
  · have h9 := hxx ho
    have hm0 : mcO false M o' = 1 := by unfold mcO; simp [ho]
    have hs0 : msO false M o' = 6 := by unfold msO; simp [ho]
    rw [hm0, hs0] at X'
    have hSS := va_S_join (H1 := T'.heap) hS h0 e1 (fun q hq => hfree _ (hL q hq)) hF
    have hm := hmc (by rw [h9]; exact ho)
    obtain ⟨t2, a1, b1⟩ := vx_out (Qc := cQ dC dI aC B false o) (XC := cXq dC dI aC B o) (mc := mc) (ms := ms) (free := fun q => B ≤ q) (below := below) (args := args) (pc := pc) (ls := ls) (rest := rest.map (cV B)) (H := T'.heap) (locs := locs ++ L) (cells := L0 + 1) (slots := S0 + 6) (p := p) (l := l) (e := e) (R := R) (s := s) (m := m) (meth := meth) (c := c) (fun x hx => (hext (by rw [h9]; exact ho) x hx).elim) hlocks (by rw [e1]; exact hce) hcv hcl
      (fun t' ht' hA' => ⟨⟨by rw [h9]; exact ho, by rw [h9]; exact hE, by rw [ht', h9, e1]; exact hP1⟩, hSS.F ht'⟩) hSS.2.2 hm.1 hm.2 T' rfl X'
    exact ⟨t2, st.trans a1, b1⟩
end
