/-! FROM THE LAW'S ENTRY TO ITS LOOP (laid by wip/whole/tools/gen_start.py) -/
def n_X11 : cE := .inr (9, [.null, .null, .null, .null, .null, .null, .null, .int 0, .int 0, .int 0])
def n_X12 : cE := .inr (10, [.int 0, .int 0, .null, .int 0, .null, .null, .null, .null, .null, .null, .null, .null, .null, .null, .null, .null, .null, .null, .null, .null, .null, .null, .null, .null, .null, .null, .null, .int 0, .null, .null, .int 0, .null, .null, .null, .null, .null, .null, .null, .int 0, .null, .int 0, .null, .null, .null, .null, .int 0, .null, .int 0, .null, .null, .int 0, .null, .null, .null, .int 0, .null, .int 0, .int 0, .null, .null, .null, .int 0, .null, .null, .null, .int 0, .null, .null, .null, .null, .null, .null, .null, .null, .null, .null])
def PI_RL : cP := poL [] [] [] [] []
theorem PI_RL_ok : pOK RL PI_RL := poL_ok (fun _ h => absurd h List.not_mem_nil) (fun _ h => absurd h List.not_mem_nil) (by decide +kernel) (fun _ h => absurd h List.not_mem_nil)
def WN (k : Nat) (q : Nat × List Value) : Prop := ∃ (Cn : String) (T : u_T) (N : Nat) (ty : Nat → FieldType), vwCl[q.1]? = some (Cn, T, N) ∧ Cond.classLink RL k Cn ∈ lw_good ∧ Cond.instantiable Cn N ∈ lw_good ∧ Cond.initialized Cn ∈ lw_good ∧ (∀ k, k < N → parseFieldDescriptor (T k).2.2.1 = some (ty k)) ∧ q.2.length = N ∧ (∀ B : Nat, q.2.map (cV B) = q.2) ∧ ∀ j, j < N → defaultValue (ty j) = vp_V q.2 j
theorem wn_X11 : WN 8 (9, [.null, .null, .null, .null, .null, .null, .null, .int 0, .int 0, .int 0]) := ⟨RX11, TX11, 10, tyX11, rfl, lw_good_of (tb_ok 22 (by decide +kernel)) rfl, lw_good_of (tb_ok 23 (by decide +kernel)) rfl, lw_good_of (tb_ok 1 (by decide +kernel)) rfl, tyX11_ok, rfl, fun _ => rfl, by decide +kernel⟩
theorem wn_X12 : WN 81 (10, [.int 0, .int 0, .null, .int 0, .null, .null, .null, .null, .null, .null, .null, .null, .null, .null, .null, .null, .null, .null, .null, .null, .null, .null, .null, .null, .null, .null, .null, .int 0, .null, .null, .int 0, .null, .null, .null, .null, .null, .null, .null, .int 0, .null, .int 0, .null, .null, .null, .null, .int 0, .null, .int 0, .null, .null, .int 0, .null, .null, .null, .int 0, .null, .int 0, .int 0, .null, .null, .null, .int 0, .null, .null, .null, .int 0, .null, .null, .null, .null, .null, .null, .null, .null, .null, .null]) := ⟨RX12, TX12, 76, tyX12, rfl, lw_good_of (tb_ok 1091 (by decide +kernel)) rfl, lw_good_of (tb_ok 1092 (by decide +kernel)) rfl, lw_good_of (tb_ok 11 (by decide +kernel)) rfl, tyX12_ok, rfl, fun _ => rfl, by decide +kernel⟩
section
variable {p : Program} {l : Launch} {e : Env} {R : Room} {s : State} {m : MethodId} {args : Array Value} {below : List Frame} {meth : Method} {c : Code}
variable {dC : Nat → ClassId} {dI : Nat → Nat → Nat} {aC : Nat → ClassId} {B nL : Nat} {Q : State → Prop} {cc : ByteArray}
theorem room_mono {s : State} {pl : Platform} {R R' : Room} (h1 : R'.frames ≤ R.frames) (h2 : R'.cells ≤ R.cells) (h3 : R'.slots ≤ R.slots) (h4 : R'.locals ≤ R.locals) (h : s.hasRoom pl R = true) : s.hasRoom pl R' = true := by
  simp only [State.hasRoom, Bool.and_eq_true, decide_eq_true_eq] at h ⊢
  obtain ⟨⟨⟨⟨a1, a2, a3, a4, a5, a6⟩, a7⟩, a8⟩, a9⟩ := h
  exact ⟨⟨⟨⟨by omega, by omega, by omega, by omega, by omega, a6⟩, by omega⟩, by omega⟩, a9⟩
theorem W_room {R' : Room} {H : Heap} {locs : List Loc} {cells slots : Nat} {g : JFrame} (h1 : R'.frames ≤ R.frames) (h2 : R'.cells ≤ R.cells) (h3 : R'.slots ≤ R.slots) (h4 : R'.locals ≤ R.locals) (k : W p l e R' s m args below meth c H locs cells slots Q g) : W p l e R s m args below meth c H locs cells slots Q g := fun T hT X =>
  k T hT ⟨X.admits, X.cas, X.clock, X.frames, room_mono h1 h2 h3 h4 X.room, X.hears, X.method, X.code, X.here, X.tail, X.warmed, X.limits, X.bytes, X.same⟩
/-- all that the law has made so far are the cells M -/
def WB (p : Program) (l : Launch) (e : Env) (R : Room) (s : State) (m : MethodId) (args : Array Value) (below : List Frame) (meth : Method) (c : Code) (dC : Nat → ClassId) (dI : Nat → Nat → Nat) (aC : Nat → ClassId) (B nL : Nat) (Q : State → Prop) (pc : Nat) (vs : List (Option Value)) (st : List Value) (M : cM) : Prop :=
  ∀ (H : Heap) (locs : List Loc) (ls : Array Slot), LV B ls nL vs → va_P (dC, dI) vwCl (cW B aC M) H → va_S (fun q => B ≤ q) s.heap H locs → H.size = B + M.length →
    W p l e R s m args below meth c H locs M.length (msz M) Q (F0 m pc ls (st.map (cV B)))
theorem WB_step {pc pc' : Nat} {vs vs' : List (Option Value)} {st st' : List Value} {M : cM} (h : WB p l e R s m args below meth c dC dI aC B nL Q pc' vs' st' M)
    (hw : ∀ (H : Heap) (locs : List Loc) (ls : Array Slot) (cells slots : Nat), LV B ls nL vs → (∀ ls' : Array Slot, LV B ls' nL vs' → W p l e R s m args below meth c H locs cells slots Q (F0 m pc' ls' (st'.map (cV B)))) → W p l e R s m args below meth c H locs cells slots Q (F0 m pc ls (st.map (cV B)))) : WB p l e R s m args below meth c dC dI aC B nL Q pc vs st M :=
  fun H locs ls hV hP hS hz => hw H locs ls _ _ hV (fun ls' hV' => h H locs ls' hV' hP hS hz)
theorem WB_new (hx : p.tables.exec = Jvm.exec) (hb : c.code = cc) (hown : s.vm.findClass RL = some m.cls) (hts : ∀ w ∈ lw_good, w.before args s = true) (hK : va_K (dC, dI) vwCl (cTys aC) s) {k : Nat} {q : Nat × List Value} (hq : WN k q) {pc : Nat} {vs : List (Option Value)} {st : List Value} {M : cM} (hsz : s.heap.size ≤ B + M.length) (hd : decode cc pc = .ok (.new k, 3)) (hc : M.length + 1 ≤ R.cells) (hs : msz M + q.2.length ≤ R.slots)
    (h : WB p l e R s m args below meth c dC dI aC B nL Q (pc + 3) vs (.ref M.length :: st) (M ++ [.inr q])) : WB p l e R s m args below meth c dC dI aC B nL Q pc vs st M := by
  obtain ⟨Cn, T, N, ty, j1, j2, j3, j4, j5, j6, j7, j8⟩ := hq
  intro H locs ls hV hP hS hz
  rw [j6] at hs
  have hKn := hK.1 q.1 _ j1
  obtain ⟨hin, -, -⟩ := cls_ok _ (List.mem_of_getElem? j1)
  refine W.newcK (own := RL) (C := Cn) hx hb hown (hts _ j2) (hts _ j3) (hts _ j4) rfl hd hc hs hKn.2.1 hz fun H1 kC hkC e1 z1 o1 => ?_
  have hat : va_at (dC, dI) vwCl (B + M.length, cT B aC (.inr q)) H1 := by
    refine ⟨_, j1, ?_⟩
    show t_OB (B + M.length) (dC q.1) N (dI q.1) H1 (vp_V (q.2.map (cV B)))
    rw [j7]
    exact (u_born ty hts hin hKn hkC e1 j5).to j8
  have h1 := h H1 locs ls hV (cW_new hP (fun q hq => o1 q (by omega)) hat) ⟨Nat.le_trans hS.1 (by omega), fun q h8 h9 => (o1 q (by have := hS.1; omega)).trans (hS.2.1 q h8 h9), hS.2.2⟩ (by rw [List.length_append]; simp only [List.length_cons, List.length_nil]; omega)
  have e9 : msz (M ++ [.inr q]) = msz M + N := by rw [msz_push]; show msz M + q.2.length = _; omega
  rw [e9, List.length_append] at h1
  exact h1
theorem WB_long (hx : p.tables.exec = Jvm.exec) (hb : c.code = cc) (hts : ∀ w ∈ lw_good, w.before args s = true) (hK : va_K (dC, dI) vwCl (cTys aC) s) {pc : Nat} {vs : List (Option Value)} {st : List Value} {M : cM} (hsz : s.heap.size ≤ B + M.length) (hd : decode cc pc = .ok (.newarray .long, 2)) (hc : M.length + 1 ≤ R.cells) (hs : msz M + 1 ≤ R.slots)
    (h : WB p l e R s m args below meth c dC dI aC B nL Q (pc + 2) vs (.ref M.length :: st) (M ++ [.inl (1, 1, .inr (.inl (fun _ => 0)))])) : WB p l e R s m args below meth c dC dI aC B nL Q pc vs (.int 1 :: st) M := by
  intro H locs ls hV hP hS hz
  refine va_newaK (N := 1) (atype := .long) hx hb (hts _ ar_ok.2.1) rfl hd rfl (by decide) (by decide) (by decide) hc hs hz fun H1 cA e1 z1 o1 hAr hNm => ?_
  have hcA := RA_prim (t := 1) hK rfl (by intro C q; cases q) hNm
  subst hcA
  have h1 := h H1 locs ls hV (cW_new hP (fun q hq => o1 q (by omega)) e1) ⟨Nat.le_trans hS.1 (by omega), fun q h8 h9 => (o1 q (by have := hS.1; omega)).trans (hS.2.1 q h8 h9), hS.2.2⟩ (by rw [List.length_append]; simp only [List.length_cons, List.length_nil]; omega)
  have e9 : msz (M ++ [.inl (1, 1, .inr (.inl (fun _ => 0)))]) = msz M + 1 := by rw [msz_push]; rfl
  rw [e9, List.length_append] at h1
  exact h1
theorem WB_init (hx : p.tables.exec = Jvm.exec) (hb : c.code = cc) (hml : c.maxLocals = nL) (hown : s.vm.findClass RL = some m.cls) (hts : ∀ w ∈ lw_good, w.before args s = true) (E : cEnv dC dI aC B s) (hns : ∀ w ∈ lw_nst, va_Nw w s) {y : MethodName} {bytes : ByteArray} {maxL k D a : Nat} {M M' : cM} (hM : CI (l, dC, dI, aC, B) y (.code y bytes maxL none) D [.ref a] M M') (hl : M.length ≤ M'.length ∧ msz M ≤ msz M') (hnw : Cond.methodLink RL k y ∈ lw_good) (hw : ∀ w ∈ [Cond.instanceMethod y, .initialized y.cls, .code y bytes maxL none], w ∈ lw_good) (hin : y.name = "<init>") (hdd : y.cls ≠ "java/lang/invoke/MethodHandle" ∧ y.cls ≠ "java/lang/invoke/VarHandle" ∧ (parseMethodDescriptor y.desc).map (fun d => d.parameters.length) = some 0) (hm : maxL ≤ 30) (hRf : D + 1 ≤ R.frames) (hRl : 8 + 41 + 60 * D ≤ R.locals)
    {pc : Nat} {vs : List (Option Value)} {st : List Value} (hcat : (st.map Value.category).sum ≤ 8) (hd : decode cc pc = .ok (.invokespecial k, 3)) (hc : M'.length ≤ R.cells) (hs : msz M' ≤ R.slots)
    (h : WB p l e R s m args below meth c dC dI aC B nL Q (pc + 3) vs st M') : WB p l e R s m args below meth c dC dI aC B nL Q pc vs (.ref a :: st) M := by
  intro H locs ls hV hP hS hz
  have hcat' : ((st.map (cV B)).map fun v => v.category).sum ≤ 8 := by
    rw [List.map_map]
    have : (fun v : Value => v.category) ∘ cV B = Value.category := funext (cV_cat B)
    rw [this]
    exact hcat
  have hG : GoodIn lw_good (Cond.code y bytes maxL none :: lw_good) := good_sub (fun w h => by
    rcases List.mem_cons.mp h with rfl | h
    · exact hw _ (by simp)
    · exact h)
  have hRR : (rmd D (M'.length - M.length) (msz M' - msz M)).frames + 1 ≤ R.frames ∧ 8 + (maxL + 11) + (rmd D (M'.length - M.length) (msz M' - msz M)).locals ≤ R.locals := ⟨hRf, by show 8 + (maxL + 11) + 60 * D ≤ R.locals; clear hw; omega⟩
  have hPre : PreS s H (va_Pc (([.ref a] : List Value).map (cV B)) (cSI dC dI aC B M)) (Value.ref (B + a) :: ([] : List Value)) := ⟨cSI_blind, fun U hU hW => ⟨rfl, ⟨E.to hS hU hW, by rw [hU]; exact hP, fun _ => by rw [hU]; exact hz⟩, fun w hw => nst_warm hw hW (hns w hw)⟩⟩
  have hf : M.length + (M'.length - M.length) ≤ R.cells ∧ msz M + (msz M' - msz M) ≤ R.slots := by obtain ⟨h1, h2⟩ := hl; clear hw; omega
  intro T hT X
  have hr := vx_runI (b := B + a) (As := []) (n := 0) (g := F0 m pc ls ((.ref a :: st).map (cV B))) (rest := st.map (cV B)) ⟨hx, hb, hml, hown, hts⟩ hM (cwI 0 hts hG rfl rfl rfl (hts _ (hw _ (by simp))) (hts _ hnw) (hts _ (hw _ (by simp))) hin hdd hRR) hPre rfl rfl hV.1 rfl (lv_room hcat') hd hf T hT X
  rcases hr with ⟨v, st₀, t, T', L, h0, X', hL, e1, e2, ⟨⟨ho, hv, hP1, hz1⟩, hF⟩, stp⟩ | ⟨q, st₀, t, T', L, E9, ce, h0, X', hL, e1, e2, ⟨⟨ho, -, -⟩, -⟩, -⟩
  · cases hv
    have hN := h T'.heap (locs ++ L) ls hV (by rw [e1]; exact hP1) (va_S_join hS h0 e1 hL hF) (by rw [e1]; exact hz1 rfl)
    have e3 : M.length + (M'.length - M.length) = M'.length ∧ msz M + (msz M' - msz M) = msz M' := by obtain ⟨h1, h2⟩ := hl; clear hw; omega
    rw [e3.1, e3.2] at X'
    obtain ⟨t2, a1, b1⟩ := hN T' rfl X'
    exact ⟨t2, stp t2 a1, b1⟩
  · exact absurd rfl ho
end
def M_long : cE := .inl (1, 1, .inr (.inl (fun _ => 0)))
/-- what comes to be at the loop's head, and how it ends there -/
theorem start_ok {p : Program} {e : Env} {s : State} {m : MethodId} {below : List Frame} {meth : Method} {c : Code} {l : Launch} (hst : l.stackTraces = false) {b L : Nat} {xs : Nat → Int32} (C0 : lw_At p s m meth c b L xs) (F N n : Nat) {M1 M3 r : cM} (h1 : f_X11_init F 0 [n_X11] = some M1) (g1 : [n_X11].length ≤ M1.length ∧ msz [n_X11] ≤ msz M1) (h2 : f_X12_init F M1.length (M1 ++ [n_X12]) = some M3) (g2 : (M1 ++ [n_X12]).length ≤ M3.length ∧ msz (M1 ++ [n_X12]) ≤ msz M3) (hc : M3.length + 1 + n ≤ 601024) (hs : msz M3 + 1 + 6 * n ≤ 7293034)
    (h3 : runX PI_RL T_L_law na_L_law (ca_L_law F) sw_L_law (sp_L_law F b L xs) cut_L_law N n 23 [some (.retAddr b), some (.ref 0), some (.ref M1.length), some (.ref M3.length), some (.int 0), none, none] [] (M3 ++ [M_long]) = some r) : W p l e room_1 s m #[Value.ref b] below meth c s.heap [] 0 0 (lw_Z below #[Value.ref b] s) (entryFrame m ([Value.ref b] : List Value).toArray 7) := by
  obtain ⟨dC, dI, aC, E, hns⟩ := env_start C0
  obtain ⟨hx, hb, hr, hml, hown, hts0, hX, hbl, hlocks, hgv⟩ := id C0
  have hts : ∀ w ∈ lw_good, w.before #[Value.ref b] s = true := fun w hw => hts0 w (List.mem_filter.mp hw).1
  have hown : s.vm.findClass RL = some m.cls := hown
  have hK := E.1
  have hlen : ∀ (M : cM) (x : cE), (M ++ [x]).length = M.length + 1 := fun M x => by rw [List.length_append]; rfl
  have hl1 : [n_X11].length = 1 := rfl
  have hl2 := hlen M1 n_X12
  have hl3 := hlen M3 M_long
  have hm1 : msz [n_X11] = 10 := rfl
  have hm2 : msz (M1 ++ [n_X12]) = msz M1 + 76 := by rw [msz_push]; rfl
  have hm3 : msz (M3 ++ [M_long]) = msz M3 + 1 := by rw [msz_push]; rfl
  obtain ⟨g1a, g1b⟩ := g1
  obtain ⟨g2a, g2b⟩ := g2
  rw [hl1] at g1a
  rw [hl2] at g2a
  rw [hm1] at g1b
  rw [hm2] at g2b
  refine W_room (R' := rmd 1300 601024 7293034) (Nat.le_of_ble_eq_true rfl) (Nat.le_refl _) (Nat.le_refl _) (Nat.le_of_ble_eq_true rfl) ?_
  have hend : ∀ (H : Heap) (locs : List Loc) (ls : Array Slot), LV s.heap.size ls 7 [some (.retAddr b), some (.ref 0), some (.ref M1.length), some (.ref M3.length), some (.int 0), none, none] → va_P (dC, dI) vwCl (cW s.heap.size aC (M3 ++ [M_long])) H → va_S (fun q => s.heap.size ≤ q) s.heap H locs → W p l e (rmd 1300 601024 7293034) s m #[Value.ref b] below meth c H locs (M3 ++ [M_long]).length (msz (M3 ++ [M_long])) (lw_Z below #[Value.ref b] s) (F0 m 23 ls []) := by
    intro H locs ls hV hP hS
    have hF : ∀ L0 S0, L0 ≤ 601024 → S0 ≤ 7293034 → cFix p l (rmd 1300 601024 7293034) s m #[Value.ref b] meth c dC dI aC s.heap.size 7 false L0 S0 601024 7293034 (0, some (.int 1), r) cL_law RL 1 := fun L0 S0 q1 q2 =>
      ⟨hx, hb, hml, hown, hts, hK, hlocks, hr, (fun q => by cases q), Nat.le_refl _, ⟨(fun q => by cases q), fun _ => ⟨q1, q2⟩⟩, Nat.le_refl _, Nat.le_refl _, fun q => absurd rfl q⟩
    have hW := runX_ok (e := e) (below := below) (D := 1300) hF E hst rfl rfl PI_RL_ok T_L_law_ok (ca_L_law_ok (q := (l, dC, dI, aC, s.heap.size)) hst (by decide) F) sw_L_law_ok (sp_L_law_ok hst (by decide) rfl rfl hF E F hX hbl) n (M3 ++ [M_long]).length (msz (M3 ++ [M_long])) (by rw [hl3]; omega) (by rw [hm3]; omega) _ _ _ _ h3
    have hV' := hW.2 H locs ls _ _ hV hP hS ⟨(fun q => by cases q), fun _ => ⟨rfl, rfl⟩⟩
    intro T hT X
    obtain ⟨t, a1, o, b1, b2, b3⟩ := hV' T hT X
    refine ⟨t, a1, o, b1, b2, ?_⟩
    rcases b3 with ⟨⟨⟨-, ho, -, -⟩, -⟩, L9, hf9, hL9⟩ | ⟨q, -, hq⟩
    · exact ⟨ho, hf9.1, hf9.2.1, State.sameButNew.drop_fresh (L := []) hf9.2.2 hL9⟩
    · obtain ⟨E9, ce, L9, ⟨⟨ho, -, -⟩, -⟩, -⟩ := hq
      exact absurd rfl ho
  have z23 : WB p l e (rmd 1300 601024 7293034) s m #[Value.ref b] below meth c dC dI aC s.heap.size 7 (lw_Z below #[Value.ref b] s) 23 [some (.retAddr b), some (.ref 0), some (.ref M1.length), some (.ref M3.length), some (.int 0), none, none] [] (M3 ++ [M_long]) := fun H locs ls hV hP hS hz => hend H locs ls hV hP hS
  have z21 : WB p l e (rmd 1300 601024 7293034) s m #[Value.ref b] below meth c dC dI aC s.heap.size 7 (lw_Z below #[Value.ref b] s) 21 [some (.retAddr b), some (.ref 0), some (.ref M1.length), some (.ref M3.length), none, none, none] [.int 0] (M3 ++ [M_long]) :=
    WB_step z23 (fun H locs ls cells slots hV k => lv_istore (i := 4) (lv := lvOf s.heap.size _) hx hb (by decide +kernel) (LV.has hV) (by decide) rfl (fun ls1 h1 => k ls1 (LV_sto (i := 4) (v := .int 0) hV h1)))
  have z20 : WB p l e (rmd 1300 601024 7293034) s m #[Value.ref b] below meth c dC dI aC s.heap.size 7 (lw_Z below #[Value.ref b] s) 20 [some (.retAddr b), some (.ref 0), some (.ref M1.length), some (.ref M3.length), none, none, none] [] (M3 ++ [M_long]) :=
    WB_step z21 (fun H locs ls cells slots hV k => lv_iconst (n := 0) (v := 0) hx hb (by decide +kernel) (by decide) (k ls hV))
  have z19 : WB p l e (rmd 1300 601024 7293034) s m #[Value.ref b] below meth c dC dI aC s.heap.size 7 (lw_Z below #[Value.ref b] s) 19 [some (.retAddr b), some (.ref 0), some (.ref M1.length), none, none, none, none] [.ref M3.length] (M3 ++ [M_long]) :=
    WB_step z20 (fun H locs ls cells slots hV k => lv_astore_n (i := 3) (k := 3) (lv := lvOf s.heap.size _) hx hb (by decide +kernel) rfl (LV.has hV) (by decide) rfl (fun ls1 h1 => k ls1 (LV_sto (i := 3) (v := .ref M3.length) hV h1)))
  have z17 : WB p l e (rmd 1300 601024 7293034) s m #[Value.ref b] below meth c dC dI aC s.heap.size 7 (lw_Z below #[Value.ref b] s) 17 [some (.retAddr b), some (.ref 0), some (.ref M1.length), none, none, none, none] [.int 1] M3 :=
    WB_long hx hb hts hK (by omega) (by decide +kernel) (by show M3.length + 1 ≤ 601024; omega) (by show msz M3 + 1 ≤ 7293034; omega) z19
  have z16 : WB p l e (rmd 1300 601024 7293034) s m #[Value.ref b] below meth c dC dI aC s.heap.size 7 (lw_Z below #[Value.ref b] s) 16 [some (.retAddr b), some (.ref 0), some (.ref M1.length), none, none, none, none] [] M3 :=
    WB_step z17 (fun H locs ls cells slots hV k => lv_iconst (n := 1) (v := 1) hx hb (by decide +kernel) (by decide) (k ls hV))
  have z15 : WB p l e (rmd 1300 601024 7293034) s m #[Value.ref b] below meth c dC dI aC s.heap.size 7 (lw_Z below #[Value.ref b] s) 15 [some (.retAddr b), some (.ref 0), none, none, none, none, none] [.ref M1.length] M3 :=
    WB_step z16 (fun H locs ls cells slots hV k => lv_astore_n (i := 2) (k := 2) (lv := lvOf s.heap.size _) hx hb (by decide +kernel) rfl (LV.has hV) (by decide) rfl (fun ls1 h1 => k ls1 (LV_sto (i := 2) (v := .ref M1.length) hV h1)))
  have z12 : WB p l e (rmd 1300 601024 7293034) s m #[Value.ref b] below meth c dC dI aC s.heap.size 7 (lw_Z below #[Value.ref b] s) 12 [some (.retAddr b), some (.ref 0), none, none, none, none, none] [.ref M1.length, .ref M1.length] (M1 ++ [n_X12]) :=
    WB_init (k := 83) (a := M1.length) (D := 1) hx hb hml hown hts E hns (c_X12_init (q := (l, dC, dI, aC, s.heap.size)) (Nat.le_refl 1) F M1.length (M1 ++ [n_X12]) M3 ⟨by omega, by omega⟩ h2) ⟨by omega, by omega⟩ (lw_good_of (tb_ok 1093 (by decide +kernel)) rfl) (List.forall_mem_cons.mpr ⟨lw_good_of (tb_ok 1094 (by decide +kernel)) rfl, List.forall_mem_cons.mpr ⟨lw_good_of (tb_ok 11 (by decide +kernel)) rfl, List.forall_mem_cons.mpr ⟨lw_good_of (tb_ok 1095 (by decide +kernel)) rfl, fun _ h => absurd h List.not_mem_nil⟩⟩⟩) rfl ⟨by decide +kernel, by decide +kernel, by decide +kernel⟩ (by decide) (by decide) (by decide) (Nat.le_of_ble_eq_true rfl) (by decide +kernel) (by show M3.length ≤ 601024; omega) (by show msz M3 ≤ 7293034; omega) z15
  have z11 : WB p l e (rmd 1300 601024 7293034) s m #[Value.ref b] below meth c dC dI aC s.heap.size 7 (lw_Z below #[Value.ref b] s) 11 [some (.retAddr b), some (.ref 0), none, none, none, none, none] [.ref M1.length] (M1 ++ [n_X12]) :=
    WB_step z12 (fun H locs ls cells slots hV k => lv_dup hx hb (by decide +kernel) rfl (k ls hV))
  have z8 : WB p l e (rmd 1300 601024 7293034) s m #[Value.ref b] below meth c dC dI aC s.heap.size 7 (lw_Z below #[Value.ref b] s) 8 [some (.retAddr b), some (.ref 0), none, none, none, none, none] [] M1 :=
    WB_new hx hb hown hts hK wn_X12 (by omega) (by decide +kernel) (by show M1.length + 1 ≤ 601024; omega) (by show msz M1 + 76 ≤ 7293034; omega) z11
  have z7 : WB p l e (rmd 1300 601024 7293034) s m #[Value.ref b] below meth c dC dI aC s.heap.size 7 (lw_Z below #[Value.ref b] s) 7 [some (.retAddr b), none, none, none, none, none, none] [.ref 0] M1 :=
    WB_step z8 (fun H locs ls cells slots hV k => lv_astore_n (i := 1) (k := 1) (lv := lvOf s.heap.size _) hx hb (by decide +kernel) rfl (LV.has hV) (by decide) rfl (fun ls1 h1 => k ls1 (LV_sto (i := 1) (v := .ref 0) hV h1)))
  have z4 : WB p l e (rmd 1300 601024 7293034) s m #[Value.ref b] below meth c dC dI aC s.heap.size 7 (lw_Z below #[Value.ref b] s) 4 [some (.retAddr b), none, none, none, none, none, none] [.ref 0, .ref 0] [n_X11] :=
    WB_init (k := 80) (a := 0) (D := 6) hx hb hml hown hts E hns (c_X11_init (q := (l, dC, dI, aC, s.heap.size)) (Nat.le_refl 6) F 0 [n_X11] M1 ⟨by omega, by omega⟩ h1) ⟨by omega, by omega⟩ (lw_good_of (tb_ok 24 (by decide +kernel)) rfl) (List.forall_mem_cons.mpr ⟨lw_good_of (tb_ok 25 (by decide +kernel)) rfl, List.forall_mem_cons.mpr ⟨lw_good_of (tb_ok 1 (by decide +kernel)) rfl, List.forall_mem_cons.mpr ⟨lw_good_of (tb_ok 26 (by decide +kernel)) rfl, fun _ h => absurd h List.not_mem_nil⟩⟩⟩) rfl ⟨by decide +kernel, by decide +kernel, by decide +kernel⟩ (by decide) (by decide) (by decide) (Nat.le_of_ble_eq_true rfl) (by decide +kernel) (by show M1.length ≤ 601024; omega) (by show msz M1 ≤ 7293034; omega) z7
  have z3 : WB p l e (rmd 1300 601024 7293034) s m #[Value.ref b] below meth c dC dI aC s.heap.size 7 (lw_Z below #[Value.ref b] s) 3 [some (.retAddr b), none, none, none, none, none, none] [.ref 0] [n_X11] :=
    WB_step z4 (fun H locs ls cells slots hV k => lv_dup hx hb (by decide +kernel) rfl (k ls hV))
  have z0 : WB p l e (rmd 1300 601024 7293034) s m #[Value.ref b] below meth c dC dI aC s.heap.size 7 (lw_Z below #[Value.ref b] s) 0 [some (.retAddr b), none, none, none, none, none, none] [] [] :=
    WB_new hx hb hown hts hK wn_X11 (Nat.le_refl _) (by decide +kernel) (Nat.le_of_ble_eq_true rfl) (Nat.le_of_ble_eq_true rfl) z3
  have hent : LV s.heap.size ((lg_sl (([.retAddr b] : List Value).map (cV s.heap.size)) ++ List.replicate (7 - (lg_sl (([.retAddr b] : List Value).map (cV s.heap.size))).length) Slot.unset).toArray) 7 (ent [.retAddr b] 7) := ent_LV (Nat.le_of_ble_eq_true rfl)
  rw [lg_entry_eq]
  exact z0 s.heap [] _ hent (fun k q h => by simp [cW] at h) va_S.rf rfl
