/-! THE LAW'S BODY: the script, which is none of the cells (in the law's local 0 it is .retAddr of its address), and a wrapper's call -/
section
variable {p : Program} {l : Launch} {e : Env} {R : Room} {s : State} {m : MethodId} {args : Array Value} {below : List Frame} {meth : Method} {c : Code}
variable {dC : Nat → ClassId} {dI : Nat → Nat → Nat} {aC : Nat → ClassId} {B nL : Nat} {L0 S0 mc ms : Nat} {o : cO} {cc : ByteArray} {own : String} {rk : Nat}
theorem WA_sld (F : cFix p l R s m args meth c dC dI aC B nL false L0 S0 mc ms o cc own rk) {b L : Nat} {xs : Nat → Int32} (hX : va_X b L xs s s.heap) (hbl : b < B) {i : Int32} (hin : vp_in i L) {pc : Nat} {vs : List (Option Value)} {st : List Value} {M : cM} (hdg : decode cc pc = .ok (.iaload, 1))
    (h : WA p l e R s m args below meth c dC dI aC B nL false L0 S0 mc ms o (pc + 1) vs (.int (xs i.toNatClampNeg) :: st) M) : WA p l e R s m args below meth c dC dI aC B nL false L0 S0 mc ms o pc vs (.int i :: .retAddr b :: st) M := by
  obtain ⟨hx, hb, hml, hown, hts, hK, hlocks, hrt, hinit, hB, hmc0, hRc, hRs, hext⟩ := F
  exact ⟨h.1, fun H locs ls cells slots hV hP hS hC => va_sld hx hb hX (Nat.lt_of_lt_of_le hbl hB) (Nat.not_le.mpr hbl) hS hin hdg (h.2 H locs ls cells slots hV hP hS hC)⟩
theorem WA_slen (F : cFix p l R s m args meth c dC dI aC B nL false L0 S0 mc ms o cc own rk) {b L : Nat} {xs : Nat → Int32} (hX : va_X b L xs s s.heap) (hbl : b < B) {pc : Nat} {vs : List (Option Value)} {st : List Value} {M : cM} (hdg : decode cc pc = .ok (.arraylength, 1))
    (h : WA p l e R s m args below meth c dC dI aC B nL false L0 S0 mc ms o (pc + 1) vs (.int (Int32.ofNat L) :: st) M) : WA p l e R s m args below meth c dC dI aC B nL false L0 S0 mc ms o pc vs (.retAddr b :: st) M := by
  obtain ⟨hx, hb, hml, hown, hts, hK, hlocks, hrt, hinit, hB, hmc0, hRc, hRs, hext⟩ := F
  exact ⟨h.1, fun H locs ls cells slots hV hP hS hC => va_slen hx hb hX (Nat.lt_of_lt_of_le hbl hB) (Nat.not_le.mpr hbl) hS hdg (h.2 H locs ls cells slots hV hP hS hC)⟩
theorem WA_sal (F : cFix p l R s m args meth c dC dI aC B nL false L0 S0 mc ms o cc own rk) {b : Nat} {pc : Nat} {vs : List (Option Value)} {st : List Value} {M : cM} (hdg : decode cc pc = .ok (.aload_n 0, 1)) (h0 : vs[0]? = some (some (.retAddr b)))
    (h : WA p l e R s m args below meth c dC dI aC B nL false L0 S0 mc ms o (pc + 1) vs (.retAddr b :: st) M) : WA p l e R s m args below meth c dC dI aC B nL false L0 S0 mc ms o pc vs st M := by
  obtain ⟨hx, hb, hml, hown, hts, hK, hlocks, hrt, hinit, hB, hmc0, hRc, hRs, hext⟩ := F
  exact WA_step h (fun H locs ls cells slots Q hV hP k => lv_aload_n (x := b) hx hb hdg rfl (hV.2.2.2 _ _ h0) (k ls hV))
/-- a number of the script: aload_0, iload, (a constant, iadd,) iaload -/
theorem read0 (F : cFix p l R s m args meth c dC dI aC B nL false L0 S0 mc ms o cc own rk) {b L : Nat} {xs : Nat → Int32} (hX : va_X b L xs s s.heap) (hbl : b < B) {i : Int32} (hin : vp_in i L) {pc : Nat} {vs : List (Option Value)} {st : List Value} {M : cM} (d0 : decode cc pc = .ok (.aload_n 0, 1)) (d1 : decode cc (pc + 1) = .ok (.iload 4, 2)) (d3 : decode cc (pc + 3) = .ok (.iaload, 1)) (h0 : vs[0]? = some (some (.retAddr b))) (h4 : vs[4]? = some (some (.int i)))
    (h : WA p l e R s m args below meth c dC dI aC B nL false L0 S0 mc ms o (pc + 4) vs (.int (xs i.toNatClampNeg) :: st) M) : WA p l e R s m args below meth c dC dI aC B nL false L0 S0 mc ms o pc vs st M := by
  refine WA_sal F d0 h0 (WA_step (WA_sld F hX hbl hin d3 h) (fun H locs ls cells slots Q hV hP k => ?_))
  exact lv_iload F.1 F.2.1 d1 (hV.2.2.2 _ _ h4) (k ls hV)
theorem readK (F : cFix p l R s m args meth c dC dI aC B nL false L0 S0 mc ms o cc own rk) {b L : Nat} {xs : Nat → Int32} (hX : va_X b L xs s s.heap) (hbl : b < B) {i v : Int32} (hin : vp_in (i + v) L) {pc w : Nat} {n : Int} {vs : List (Option Value)} {st : List Value} {M : cM} (d0 : decode cc pc = .ok (.aload_n 0, 1)) (d1 : decode cc (pc + 1) = .ok (.iload 4, 2)) (d2 : (w = 1 ∧ decode cc (pc + 3) = .ok (.iconst n, 1) ∧ Int32.ofInt n = v) ∨ (w = 2 ∧ decode cc (pc + 3) = .ok (.bipush n, 2) ∧ (Int8.ofInt n).toInt32 = v)) (d3 : decode cc (pc + 3 + w) = .ok (.iadd, 1)) (d4 : decode cc (pc + 3 + w + 1) = .ok (.iaload, 1)) (h0 : vs[0]? = some (some (.retAddr b))) (h4 : vs[4]? = some (some (.int i)))
    (h : WA p l e R s m args below meth c dC dI aC B nL false L0 S0 mc ms o (pc + 3 + w + 2) vs (.int (xs (i + v).toNatClampNeg) :: st) M) : WA p l e R s m args below meth c dC dI aC B nL false L0 S0 mc ms o pc vs st M := by
  have h1 := WA_sld F hX hbl hin d4 h
  have h2 : WA p l e R s m args below meth c dC dI aC B nL false L0 S0 mc ms o (pc + 3 + w) vs (.int v :: .int i :: .retAddr b :: st) M :=
    WA_step h1 (fun H locs ls cells slots Q hV hP k => lv_iadd F.1 F.2.1 d3 (k ls hV))
  have h3 : WA p l e R s m args below meth c dC dI aC B nL false L0 S0 mc ms o (pc + 3) vs (.int i :: .retAddr b :: st) M := by
    rcases d2 with ⟨rfl, d, hv⟩ | ⟨rfl, d, hv⟩
    · exact WA_step h2 (fun H locs ls cells slots Q hV hP k => lv_iconst F.1 F.2.1 d hv (k ls hV))
    · exact WA_step h2 (fun H locs ls cells slots Q hV hP k => lv_bipush F.1 F.2.1 d hv (k ls hV))
  exact WA_sal F d0 h0 (WA_step h3 (fun H locs ls cells slots Q hV hP k => lv_iload F.1 F.2.1 d1 (hV.2.2.2 _ _ h4) (k ls hV)))
/-- a wrapper is called: behind it there is one thing more, of 6 -/
theorem call_W (F : cFix p l R s m args meth c dC dI aC B nL false L0 S0 mc ms o cc own rk) (E : cEnv dC dI aC B s) {y : MethodName} {bytes : ByteArray} {maxL d k n : Nat} {hh : List (Nat × Nat × Nat × Nat)} {as rest : List Value} {M : cM} {r : Int32 × cM} {pc : Nat} {vs : List (Option Value)}
    (hM : CTW (l, dC, dI, aC, B) y bytes maxL hh d as M r) (hw : ∀ w ∈ [Cond.methodLink own k y, .static y, .initialized y.cls, .codeWith y bytes maxL (some .int) hh], w ∈ lw_good) (hd : y.cls ≠ "java/lang/invoke/MethodHandle" ∧ y.cls ≠ "java/lang/invoke/VarHandle" ∧ (parseMethodDescriptor y.desc).map (fun d => d.parameters.length) = some n) (hn : as.length = n) (hR : d + 1 ≤ R.frames ∧ 8 + (maxL + 11) + 60 * d ≤ R.locals) (hc : L0 + 1 ≤ R.cells ∧ S0 + 6 ≤ R.slots)
    (hdg : decode cc pc = .ok (.invokestatic k, 3)) (hcat : (rest.map Value.category).sum ≤ 8) (h : WA p l e R s m args below meth c dC dI aC B nL false (L0 + 1) (S0 + 6) mc ms o (pc + 3) vs (.int r.1 :: rest) r.2) : WA p l e R s m args below meth c dC dI aC B nL false L0 S0 mc ms o pc vs (as.reverse ++ rest) M := by
  obtain ⟨hx, hb, hml, hown, hts, hK, hlocks, hrt, hinit, hB, hmc0, hRc, hRs, hext⟩ := F
  refine ⟨fun q => absurd q (by decide), fun H locs ls cells slots hV hP hS hC T hT X => ?_⟩
  obtain ⟨hc0, hs00⟩ := hC.2 rfl
  subst cells
  subst slots
  have hr := vx_runSX (s := s) (H := H) (hh := hh) (As := as.map (cV B)) (g := F0 m pc ls ((as.reverse ++ rest).map (cV B))) (rest := rest.map (cV B)) (cells := L0) (slots := S0) (locs := locs) ⟨hx, hb, hml, hown, hts⟩ hM (vx_cwSW n hts (good_sub ?_) rfl rfl rfl hd hR) ⟨cS_blind, fun U hU hW => ⟨rfl, E.to hS hU hW, by rw [hU]; exact hP, fun q => by cases q⟩⟩ rfl (by rw [List.length_map]; exact hn) hV.1 ?_ (lv_room ?_) hdg hc T hT X
  · rcases hr with ⟨v, st₀, t, T', L, h0, X', hL, e1, e2, ⟨⟨ho, hv, hP1, -⟩, hF⟩, st⟩ | ⟨q, st₀, t, T', L, E9, ce, h0, X', hL, e1, e2, ⟨⟨ho, hE, hP1⟩, hF⟩, hce, hcv, hcl, st⟩
    · cases hv
      obtain ⟨t2, a1, b1⟩ := h.2 T'.heap (locs ++ L) ls (L0 + 1) (S0 + 6) hV (by rw [e1]; exact hP1) (va_S_join hS h0 e1 hL hF) ⟨fun q => absurd q (by decide), fun _ => ⟨rfl, rfl⟩⟩ T' rfl X'
      exact ⟨t2, st t2 a1, b1⟩
    · exact absurd rfl ho
  · intro w h
    unfold va_wsS at h
    rcases List.mem_append.mp h with h | h
    · simp only [List.mem_cons, List.not_mem_nil, or_false] at h
      rcases h with rfl | rfl | rfl <;> exact hw _ (by simp)
    · rcases List.mem_cons.mp h with rfl | h
      · exact hw _ (by simp)
      · exact h
  · simp
  · rw [List.map_map]
    have : (fun v : Value => v.category) ∘ cV B = Value.category := funext (cV_cat B)
    rw [this]
    exact hcat
end
