/-! THE LAW'S WRAPPERS: their contract, and their walk -/
section
variable {p : Program} {l : Launch} {e : Env} {R : Room} {s : State} {m : MethodId} {args : Array Value} {below : List Frame} {meth : Method} {c : Code}
variable {dC : Nat → ClassId} {dI : Nat → Nat → Nat} {aC : Nat → ClassId} {B nL : Nat} {L0 S0 mc ms : Nat} {o : cO} {cc : ByteArray} {own : String}
theorem mc_leH {o' : cO} {M : cM} (F : cFix p l R s m args meth c dC dI aC B nL false L0 S0 mc ms o cc own 0) (hm : L0 + 1 ≤ mc ∧ S0 + 6 ≤ ms) : L0 + mcO false M o' ≤ R.cells ∧ S0 + msO false M o' ≤ R.slots := by
  obtain ⟨hx, hb, hml, hown, hts, hK, hlocks, hrt, hinit, hB, hmc0, hRc, hRs, hext⟩ := F
  clear hts hext
  by_cases h : o'.1 = 0
  · have h1 : mcO false M o' = 0 := by unfold mcO; simp [h]
    have h2 : msO false M o' = 0 := by unfold msO; simp [h]
    omega
  · have h1 : mcO false M o' = 1 := by unfold mcO; simp [h]
    have h2 : msO false M o' = 6 := by unfold msO; simp [h]
    omega
theorem call_VH (F : cFix p l R s m args meth c dC dI aC B nL false L0 S0 mc ms o cc own 0) (E : cEnv dC dI aC B s) (hm : L0 + 1 ≤ mc ∧ S0 + 6 ≤ ms) {y : MethodName} {bytes : ByteArray} {maxL d k n a ci N : Nat} {T : u_T} {ret : Option FieldType} {as rest fs : List Value} {M : cM} {o' : cO} {pc : Nat} {vs : List (Option Value)}
    (hM : CT l dC dI aC B false y (.code y bytes maxL ret) d (.ref a :: as) M o') (ha : M[a]? = some (.inr (ci, fs))) (hci : vwCl[ci]? = some (y.cls, T, N)) (hw : ∀ w ∈ [Cond.methodLink own k y, .instanceMethod y, .selects y.cls y y, .initialized y.cls, .code y bytes maxL ret], w ∈ lw_good) (hd : y.cls = y.cls ∧ y.cls ≠ "java/lang/invoke/MethodHandle" ∧ y.cls ≠ "java/lang/invoke/VarHandle" ∧ (parseMethodDescriptor y.desc).map (fun d => d.parameters.length) = some n) (hn : as.length = n) (hR : d + 1 ≤ R.frames ∧ 8 + (maxL + 11) + 60 * d ≤ R.locals)
    (hdg : decode cc pc = .ok (.invokevirtual k, 3)) (hcat : (rest.map Value.category).sum ≤ 8) (hex : o'.1 = 0 → WA p l e R s m args below meth c dC dI aC B nL false L0 S0 mc ms o (pc + 3) vs (o'.2.1.toList ++ rest) o'.2.2) (hxx : o'.1 ≠ 0 → ∃ v, hOK own cc nL c.exceptionTable.toList pc o'.1 v ∧ o = (0, some (.int v), o'.2.2)) : WA p l e R s m args below meth c dC dI aC B nL false L0 S0 mc ms o pc vs ((.ref a :: as).reverse ++ rest) M := by
  refine catch_end (a := (Value.ref (B + a) :: as.map (cV B)).toArray) (free := fun q => B ≤ q) F E hm (fun _ h => h) (fun H locs ls hV hP hS => ?_) hex hxx
  obtain ⟨hx, hb, hml, hown, hts, hK, hlocks, hrt, hinit, hB, hmc0, hRc, hRs, hext⟩ := id F
  refine vx_runV (b := B + a) (As := as.map (cV B)) ⟨hx, hb, hml, hown, hts⟩ hM (cwV n hts (good_sub ?_) rfl rfl rfl hd hR) ⟨cS_blind, va_recv hK hP hci (cW_get ha), fun U hU hW => ⟨rfl, E.to hS hU hW, by rw [hU]; exact hP, fun q => by cases q⟩⟩ rfl (by rw [List.length_map]; exact hn) hV.1 ?_ (lv_room ?_) hdg (mc_leH F hm)
  · intro w h
    rcases List.mem_append.mp h with h | h
    · simp only [List.mem_cons, List.not_mem_nil, or_false] at h
      rcases h with rfl | rfl | rfl | rfl <;> exact hw _ (by simp)
    · rcases List.mem_cons.mp h with rfl | h
      · exact hw _ (by simp)
      · exact h
  · show ((Value.ref a :: as).reverse ++ rest).map (cV B) = _
    simp [cV]
  · rw [List.map_map]
    have : (fun v : Value => v.category) ∘ cV B = Value.category := funext (cV_cat B)
    rw [this]
    exact hcat
/-- the call with handlers -/
theorem caH_ok (F : cFix p l R s m args meth c dC dI aC B nL false L0 S0 mc ms o cc own 0) (E : cEnv dC dI aC B s) (hm : L0 + 1 ≤ mc ∧ S0 + 6 ≤ ms) {D : Nat} (hRf : R.frames = D) (hRl : R.locals = 60 * D) {R' : Type} {ca : List (Nat × cFn R')} (hca : ∀ q ∈ ca, 1 ≤ D ∧ ceS (l, dC, dI, aC, B) own (D - 1) q.1 q.2) {kx : Nat → cM → Option R'} {r : R'} {pc : Nat} (hkx : ∀ e M, e ≠ 0 → kx e M = some r → ∃ v, hOK own cc nL c.exceptionTable.toList pc e v ∧ o = (0, some (.int v), M)) (k0 : Nat) (vs : List (Option Value)) (as rest : List Value) (M : cM) (κ : Option Value → cM → Option R')
    (hdg : decode cc pc = .ok (.invokevirtual k0, 3)) (hcat : (rest.map Value.category).sum ≤ 8) (h : caL ca (3 * k0 + 1) as M κ kx = some r) (hk : ∀ v M', κ v M' = some r → WA p l e R s m args below meth c dC dI aC B nL false L0 S0 mc ms o (pc + 3) vs (v.toList ++ rest) M') : WA p l e R s m args below meth c dC dI aC B nL false L0 S0 mc ms o pc vs (as.reverse ++ rest) M := by
  unfold caL at h
  split at h
  · next f hf =>
    obtain ⟨hD1, hce⟩ := hca _ (lkN_mem hf)
    obtain ⟨o', h0, hx0, hh⟩ := hce as M κ kx r h
    rcases hh with ⟨y, bytes, maxL, ret, k, n, e1, hM, hw, hd, hn, hm1⟩ | ⟨y, bytes, maxL, ret, k, n, a, as', ci, T0, N, fs, e1, rfl, hM, ha, hci, hw, hd, hn, hm1⟩ | ⟨k, x, y, e1, rfl, rfl, hw⟩
    · exact absurd e1 (by clear hw hd hcat; omega)
    · have hR : D - 1 + 1 ≤ R.frames ∧ 8 + (maxL + 11) + 60 * (D - 1) ≤ R.locals := by rw [hRf, hRl]; clear hw hd hcat; omega
      have : k0 = k := by clear hw hd hcat; omega
      subst this
      exact call_VH F E hm hM ha hci hw hd hn hR hdg hcat (fun q => hk _ _ (h0 q)) (fun q => hkx _ _ q (hx0 q))
    · exact absurd e1 (by clear hw hcat; omega)
  · cases h
end
/-- a wrapper's contract: it makes one thing at most, and never throws -/
def CTW (q : cL) (y : MethodName) (bytes : ByteArray) (maxL : Nat) (hh : List (Nat × Nat × Nat × Nat)) (d : Nat) (as : List Value) (M : cM) (r : Int32 × cM) : Prop :=
  vx_Met q.1 y (Cond.codeWith y bytes maxL (some .int) hh :: lw_good) (rmd d 1 6) (va_Pc (as.map (cV q.2.2.2.2)) (cS q.2.1 q.2.2.1 q.2.2.2.1 q.2.2.2.2 false M)) (cQ q.2.1 q.2.2.1 q.2.2.2.1 q.2.2.2.2 false (0, some (.int r.1), r.2)) (cXq q.2.1 q.2.2.1 q.2.2.2.1 q.2.2.2.2 (0, some (.int r.1), r.2)) 1 6 (fun z => q.2.2.2.2 ≤ z)
theorem CTW_of {q : cL} {y : MethodName} {cc : ByteArray} {nL D : Nat} {hh : List (Nat × Nat × Nat × Nat)} {own : String} {as : List Value} {M : cM} {r : Int32 × cM} (hy : plainName y.cls = true) (hown : y.cls = own) (hn : (argV as).length ≤ nL)
    (h : ∀ (p : Program) (e : Env) (s : State) (m : MethodId) (args : Array Value) (below : List Frame) (meth : Method) (c : Code), cFix p q.1 (rmd D 1 6) s m args meth c q.2.1 q.2.2.1 q.2.2.2.1 q.2.2.2.2 nL false 0 0 1 6 (0, some (.int r.1), r.2) cc own 0 → cEnv q.2.1 q.2.2.1 q.2.2.2.1 q.2.2.2.2 s → c.exceptionTable.toList = tableOf hh →
      WA p q.1 e (rmd D 1 6) s m args below meth c q.2.1 q.2.2.1 q.2.2.2.1 q.2.2.2.2 nL false 0 0 1 6 (0, some (.int r.1), r.2) 0 (ent as nL) [] M) : CTW q y cc nL hh D as M r := by
  obtain ⟨l, dC, dI, aC, B⟩ := q
  refine vx_ofWH (cc := cc) (maxL := nL) (ret := some .int) (hh := hh) hy rfl ?_
  intro p e s m args below meth c s₁ Bd hml hv
  obtain ⟨rfl, hE, hP, hz⟩ := hv
  have hts : ∀ w ∈ (Cond.codeWith y cc nL (some .int) hh :: lw_good), w.before _ s = true := atoms_spec (ws := Cond.codeWith y cc nL (some .int) hh :: lw_good) Bd.pre
  have hext := vx_table (x := y) Bd (hts _ List.mem_cons_self)
  have F : cFix p l (rmd D 1 6) s m (as.map (cV B)).toArray meth c dC dI aC B nL false 0 0 1 6 (0, some (.int r.1), r.2) cc own 0 := by
    refine ⟨Bd.exec, Bd.bytes, hml, ?_, fun w hw => hts w (List.mem_cons_of_mem _ hw), hE.1, Bd.notSynchronized, Bd.returns, fun q => absurd q (by decide), hE.2.1, ⟨fun q => absurd q (by decide), fun _ => ⟨Nat.zero_le _, Nat.zero_le _⟩⟩, Nat.le_refl _, Nat.le_refl _, fun hne => absurd rfl hne⟩
    rw [← hown]
    exact findClass_of_methodNamed Bd.named
  rw [lg_entry_eq]
  exact (h p e s m _ below meth c F hE hext).2 s.heap [] _ 0 0 (ent_LV hn) hP va_S.rf ⟨fun q => absurd q (by decide), fun _ => ⟨rfl, rfl⟩⟩
def kxW (xs : List (Nat × Int32)) : Nat → cM → Option (Int32 × cM) := fun e M => (lkN xs e).map (fun v => (v, M))
def P_LW : cP := poL [] [] [] [] []
theorem P_LW_ok {own : String} : pOK own P_LW := poL_ok (fun _ h => absurd h List.not_mem_nil) (fun _ h => absurd h List.not_mem_nil) rfl (fun _ h => absurd h List.not_mem_nil)
/-- behind a wrapper's call -/
noncomputable def runW (T : List cRow) (xs : List (Nat × Int32)) (sp : List Nat) (K : List (Nat × cKf (Int32 × cM))) (N pc : Nat) (vs : List (Option Value)) (st : List Value) (M : cM) : Option (Int32 × cM) := run T P_LW false 0 (naL []) (caL []) (lkN []) (lkN []) krI (kxW xs) (spL sp) (KL K) N pc vs st M
noncomputable def kW (T : List cRow) (ca : List (Nat × cFn (Int32 × cM))) (xs : List (Nat × Int32)) (pc k na N : Nat) : cKf (Int32 × cM) := fun vs st M =>
  if Nat.ble ((st.drop na).map Value.category).sum 8 = true then caL ca (3 * k + 1) (st.take na).reverse M (fun v M' => runW T xs [] [] N (pc + 3) vs (v.toList ++ st.drop na) M') (kxW xs) else none
theorem wrap_ok {q : cL} {y : MethodName} {cc : ByteArray} {nL D : Nat} {hh : List (Nat × Nat × Nat × Nat)} {own : String} {as : List Value} {M : cM} {r : Int32 × cM} (hy : plainName y.cls = true) (hown : y.cls = own) (hn : (argV as).length ≤ nL)
    {T : List cRow} (hT : T.all (rowB cc) = true) {ca : List (Nat × cFn (Int32 × cM))} (hca : ∀ x ∈ ca, 1 ≤ D ∧ ceS q own (D - 1) x.1 x.2) {xs : List (Nat × Int32)} {pc k na N : Nat} (hd : decode cc pc = .ok (.invokevirtual k, 3)) (hx : ∀ x ∈ xs, hOK own cc nL (tableOf hh) pc x.1 x.2)
    (h : runW T xs [pc] [(pc, kW T ca xs pc k na N)] N 0 (ent as nL) [] M = some r) : CTW q y cc nL hh D as M r := by
  obtain ⟨l, dC, dI, aC, B⟩ := q
  refine CTW_of hy hown hn fun p e s m args below meth c F E ht => ?_
  have go : ∀ (sp : List Nat) (K : List (Nat × cKf (Int32 × cM))) (hK : ∀ z ∈ K, ∀ vs st M, z.2 vs st M = some r → WA p l e (rmd D 1 6) s m args below meth c dC dI aC B nL false 0 0 1 6 (0, some (.int r.1), r.2) z.1 vs st M) (n pc : Nat) (vs : List (Option Value)) (st : List Value) (M : cM), runW T xs sp K n pc vs st M = some r → WA p l e (rmd D 1 6) s m args below meth c dC dI aC B nL false 0 0 1 6 (0, some (.int r.1), r.2) pc vs st M := by
    intro sp K hK n pc vs st M h
    exact run_ok (na := naL []) (ca := caL []) (th := lkN []) (sw := lkN []) (kr := krI) (kx := kxW xs) (sp := spL sp) (K := KL K) (tb := T) F P_LW_ok (KL_ok hK) (fun v M h => krI_ok v M h) (fun pc k vs M e0 _ hte => by cases hte) (fun pc q hq => by cases hq) (fun pc i k' vs as rest M κ hi hdg hcat hlen h => by cases h) (fun q => by cases q) hT n pc vs st M h
  refine go _ _ (fun z hz vs st M h => ?_) _ _ _ _ _ h
  cases List.mem_singleton.mp hz
  unfold kW at h
  dsimp only at h
  split at h
  · next hb =>
    have e1 : st = (st.take na).reverse.reverse ++ st.drop na := by rw [List.reverse_reverse, List.take_append_drop]
    rw [e1]
    refine caH_ok F E ⟨Nat.le_refl _, Nat.le_refl _⟩ rfl rfl hca (fun e9 M9 h9 h8 => ?_) k vs _ _ M _ hd (Nat.le_of_ble_eq_true hb) h (fun v M' h => go [] [] (fun _ h => absurd h List.not_mem_nil) _ _ _ _ _ h)
    unfold kxW at h8
    obtain ⟨v, h7, h6⟩ := Option.map_eq_some_iff.mp h8
    subst h6
    refine ⟨v, ?_, rfl⟩
    rw [ht]
    exact hx _ (lkN_mem h7)
  · cases h
