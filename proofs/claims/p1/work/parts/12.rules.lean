/-! CALLS AND THROWS, as rules of the walk -/
theorem good_sub {L : List Cond} (h : ∀ w ∈ L, w ∈ lw_good) : GoodIn lw_good L := fun w hw => ⟨h w hw, good_of_word (List.mem_filter.mp (h w hw)).2⟩
section
variable {l : Launch} {dC : Nat → ClassId} {dI : Nat → Nat → Nat} {aC : Nat → ClassId} {B : Nat}
variable {p : Program} {e : Env} {R : Room} {s : State} {m : MethodId} {args : Array Value} {below : List Frame} {meth : Method} {c : Code}
variable {nL : Nat} {L0 S0 mc ms : Nat} {o : cO} {cc : ByteArray} {own : String} {rk : Nat}
theorem mc_le {o' : cO} {M : cM} (F : cFix p l R s m args meth c dC dI aC B nL false L0 S0 mc ms o cc own rk) (hmc : o.1 ≠ 0 → L0 + 1 ≤ mc ∧ S0 + 6 ≤ ms) (hxx : o'.1 ≠ 0 → o = (o'.1, none, o'.2.2)) : L0 + mcO false M o' ≤ R.cells ∧ S0 + msO false M o' ≤ R.slots := by
  obtain ⟨hx, hb, hml, hown, hts, hK, hlocks, hrt, hinit, hB, hmc0, hRc, hRs, hext⟩ := F
  unfold mcO msO
  by_cases h : o'.1 = 0
  · simp [h]
    exact ⟨Nat.le_trans (hmc0.2 rfl).1 hRc, Nat.le_trans (hmc0.2 rfl).2 hRs⟩
  · have h1 := hmc (by rw [hxx h]; exact h)
    simp [h]
    omega
theorem call_S (F : cFix p l R s m args meth c dC dI aC B nL false L0 S0 mc ms o cc own rk) (E : cEnv dC dI aC B s) (hmc : o.1 ≠ 0 → L0 + 1 ≤ mc ∧ S0 + 6 ≤ ms) {y : MethodName} {bytes : ByteArray} {maxL d k n : Nat} {ret : Option FieldType} {as rest : List Value} {M : cM} {o' : cO} {pc : Nat} {vs : List (Option Value)}
    (hM : CT l dC dI aC B false y (.code y bytes maxL ret) d as M o') (hw : ∀ w ∈ [Cond.methodLink own k y, .static y, .initialized y.cls, .code y bytes maxL ret], w ∈ lw_good) (hd : y.cls ≠ "java/lang/invoke/MethodHandle" ∧ y.cls ≠ "java/lang/invoke/VarHandle" ∧ (parseMethodDescriptor y.desc).map (fun d => d.parameters.length) = some n) (hn : as.length = n) (hR : d + 1 ≤ R.frames ∧ 8 + (maxL + 11) + 60 * d ≤ R.locals)
    (hdg : decode cc pc = .ok (.invokestatic k, 3)) (hcat : (rest.map Value.category).sum ≤ 8) (hex : o'.1 = 0 → WA p l e R s m args below meth c dC dI aC B nL false L0 S0 mc ms o (pc + 3) vs (o'.2.1.toList ++ rest) o'.2.2) (hxx : o'.1 ≠ 0 → o = (o'.1, none, o'.2.2)) : WA p l e R s m args below meth c dC dI aC B nL false L0 S0 mc ms o pc vs (as.reverse ++ rest) M := by
  refine call_end (a := (as.map (cV B)).toArray) (free := fun q => B ≤ q) F hmc (fun _ h => h) (fun H locs ls hV hP hS => ?_) hex hxx
  obtain ⟨hx, hb, hml, hown, hts, hK, hlocks, hrt, hinit, hB, hmc0, hRc, hRs, hext⟩ := id F
  refine vx_runS (As := as.map (cV B)) ⟨hx, hb, hml, hown, hts⟩ hM (va_cwS n hts (good_sub ?_) rfl rfl rfl hd hR) ⟨cS_blind, fun U hU hW => ⟨rfl, E.to hS hU hW, by rw [hU]; exact hP, fun q => by cases q⟩⟩ rfl (by rw [List.length_map]; exact hn) hV.1 ?_ (lv_room ?_) hdg (mc_le F hmc hxx)
  · intro w h
    rcases List.mem_append.mp h with h | h
    · simp only [List.mem_cons, List.not_mem_nil, or_false] at h
      rcases h with rfl | rfl | rfl <;> exact hw _ (by simp)
    · rcases List.mem_cons.mp h with rfl | h
      · exact hw _ (by simp)
      · exact h
  · show (as.reverse ++ rest).map (cV B) = _
    rw [List.map_append, List.map_reverse]
  · rw [List.map_map]
    have : (fun v : Value => v.category) ∘ cV B = Value.category := funext (cV_cat B)
    rw [this]
    exact hcat
theorem call_V (F : cFix p l R s m args meth c dC dI aC B nL false L0 S0 mc ms o cc own rk) (E : cEnv dC dI aC B s) (hmc : o.1 ≠ 0 → L0 + 1 ≤ mc ∧ S0 + 6 ≤ ms) {y : MethodName} {bytes : ByteArray} {maxL d k n a ci N : Nat} {T : u_T} {ret : Option FieldType} {as rest fs : List Value} {M : cM} {o' : cO} {pc : Nat} {vs : List (Option Value)}
    (hM : CT l dC dI aC B false y (.code y bytes maxL ret) d (.ref a :: as) M o') (ha : M[a]? = some (.inr (ci, fs))) (hci : vwCl[ci]? = some (y.cls, T, N)) (hw : ∀ w ∈ [Cond.methodLink own k y, .instanceMethod y, .selects y.cls y y, .initialized y.cls, .code y bytes maxL ret], w ∈ lw_good) (hd : y.cls = y.cls ∧ y.cls ≠ "java/lang/invoke/MethodHandle" ∧ y.cls ≠ "java/lang/invoke/VarHandle" ∧ (parseMethodDescriptor y.desc).map (fun d => d.parameters.length) = some n) (hn : as.length = n) (hR : d + 1 ≤ R.frames ∧ 8 + (maxL + 11) + 60 * d ≤ R.locals)
    (hdg : decode cc pc = .ok (.invokevirtual k, 3)) (hcat : (rest.map Value.category).sum ≤ 8) (hex : o'.1 = 0 → WA p l e R s m args below meth c dC dI aC B nL false L0 S0 mc ms o (pc + 3) vs (o'.2.1.toList ++ rest) o'.2.2) (hxx : o'.1 ≠ 0 → o = (o'.1, none, o'.2.2)) : WA p l e R s m args below meth c dC dI aC B nL false L0 S0 mc ms o pc vs ((.ref a :: as).reverse ++ rest) M := by
  refine call_end (a := (Value.ref (B + a) :: as.map (cV B)).toArray) (free := fun q => B ≤ q) F hmc (fun _ h => h) (fun H locs ls hV hP hS => ?_) hex hxx
  obtain ⟨hx, hb, hml, hown, hts, hK, hlocks, hrt, hinit, hB, hmc0, hRc, hRs, hext⟩ := id F
  refine vx_runV (b := B + a) (As := as.map (cV B)) ⟨hx, hb, hml, hown, hts⟩ hM (cwV n hts (good_sub ?_) rfl rfl rfl hd hR) ⟨cS_blind, va_recv hK hP hci (cW_get ha), fun U hU hW => ⟨rfl, E.to hS hU hW, by rw [hU]; exact hP, fun q => by cases q⟩⟩ rfl (by rw [List.length_map]; exact hn) hV.1 ?_ (lv_room ?_) hdg (mc_le F hmc hxx)
  · intro w h
    rcases List.mem_append.mp h with h | h
    · simp only [List.mem_cons, List.not_mem_nil, or_false] at h
      rcases h with rfl | rfl | rfl | rfl <;> exact hw _ (by simp)
    · rcases List.mem_cons.mp h with rfl | h
      · exact hw _ (by simp)
      · exact h
  · show ((Value.ref a :: as).reverse ++ rest).map (cV B) = _
    simp [cV]
  · rw [List.map_map]
    have : (fun v : Value => v.category) ∘ cV B = Value.category := funext (cV_cat B)
    rw [this]
    exact hcat
/-- what a throw needs of the tables -/
def thOK (own : String) (e0 ik ic is : Nat) (text : String) : Prop := (e0 = 1 ∨ e0 = 2 ∨ e0 = 3) ∧ Cond.classLink own ik (eName e0) ∈ lw_good ∧ Cond.initialized (eName e0) ∈ lw_good ∧ (∀ w ∈ vx_atS own ic (eName e0) ["java/lang/RuntimeException", "java/lang/Exception"], w ∈ lw_good ∨ w ∈ lw_dcl) ∧ (∀ w ∈ Cond.classLink own ik (eName e0) :: Cond.initialized (eName e0) :: vx_atS own ic (eName e0) ["java/lang/RuntimeException", "java/lang/Exception"], vx_ot w = true) ∧ (own, is, text) ∈ cStrs
theorem th_fit {e0 : Nat} (h : e0 = 1 ∨ e0 = 2 ∨ e0 = 3) : Bundle.fit (eName e0) = true := by
  rcases h with rfl | rfl | rfl <;> decide +kernel
theorem throw_S (hl : l.stackTraces = false) (F : cFix p l R s m args meth c dC dI aC B nL false L0 S0 mc ms o cc own rk) (E : cEnv dC dI aC B s) (hmc : o.1 ≠ 0 → L0 + 1 ≤ mc ∧ S0 + 6 ≤ ms) {e0 ik ic is pc : Nat} {text : String} {vs : List (Option Value)} {M : cM} (hT : thOK own e0 ik ic is text) (ho : o = (e0, none, M)) (hR : 6 ≤ R.frames ∧ 100 ≤ R.locals)
    (d0 : decode cc pc = .ok (.new ik, 3)) (d3 : decode cc (pc + 3) = .ok (.dup, 1)) (dd : (decode cc (pc + 4) = .ok (.ldc is, 2) ∧ decode cc (pc + 6) = .ok (.invokespecial ic, 3) ∧ decode cc (pc + 9) = .ok (.athrow, 1)) ∨ (decode cc (pc + 4) = .ok (.ldc_w is, 3) ∧ decode cc (pc + 7) = .ok (.invokespecial ic, 3) ∧ decode cc (pc + 10) = .ok (.athrow, 1))) : WA p l e R s m args below meth c dC dI aC B nL false L0 S0 mc ms o pc vs [] M := by
  obtain ⟨hx, hb, hml, hown, hts, hK, hlocks, hrt, hinit, hB, hmc0, hRc, hRs, hext⟩ := F
  obtain ⟨h1, h2, h3, h4, h5, h6⟩ := hT
  obtain ⟨g1, g2, g3, g4, g5, g6, g7, -⟩ := E
  obtain ⟨sa, hsa⟩ := g5 _ h6
  have he : e0 ≠ 0 := by rcases h1 with rfl | rfl | rfl <;> decide
  have hm := hmc (by rw [ho]; exact he)
  refine ⟨fun q => absurd q (by decide), fun H locs ls cells slots hV hP hS hC => ?_⟩
  obtain ⟨hc0, hs00⟩ := hC.2 rfl
  subst cells
  subst slots
  have hat : ∀ w ∈ vx_atS own ic (eName e0) ["java/lang/RuntimeException", "java/lang/Exception"], w.before args s = true := fun w hw => by
    rcases h4 w hw with h | h
    · exact hts _ h
    · exact dcl_warm h (Vm.Alike.refl s.vm) (g4 w h)
  have hfin : ∀ t : State, s.vm.Alike t.vm → H.size ≤ t.heap.size → (∀ q : Nat, q < H.size → t.heap[q]? = H[q]?) → cXq dC dI aC B o (eName e0) s t := fun t ht hz hk => by
    subst ho
    exact ⟨⟨he, rfl, hP.kept (fun k q hq => hk q.1 (hP k q hq).lt)⟩, Nat.le_trans hS.1 hz, fun q h8 h9 => (hk q (Nat.lt_of_lt_of_le h8 hS.1)).trans (hS.2.1 q h8 h9)⟩
  have hnm : ∀ n ∈ ["java/lang/RuntimeException", "java/lang/Exception"], Bundle.fit n = true := by decide +kernel
  rcases dd with ⟨d4, d6, d9⟩ | ⟨d4, d6, d9⟩
  · exact vx_throwS (A := fun q => B ≤ q) (text := text) (sa := sa) hx hb hl hown (th_fit h1) hnm (hts _ h2) (hts _ h3) hsa hat h5 g6 g7 hS (by rw [hV.1, hml]) d0 d3 d4 d6 d9 (fun x hx => (hext (by rw [ho]; exact he) x hx).elim) (by show 2 + 3 < R.frames; omega) (by show 0 + (13 * (2 + 1) + 43) ≤ R.locals; omega) (by omega) (by omega) hlocks hfin hS.2.2 (by omega) (by omega)
  · exact vx_throwSW (A := fun q => B ≤ q) (text := text) (sa := sa) hx hb hl hown (th_fit h1) hnm (hts _ h2) (hts _ h3) hsa hat h5 g6 g7 hS (by rw [hV.1, hml]) d0 d3 d4 d6 d9 (fun x hx => (hext (by rw [ho]; exact he) x hx).elim) (by show 2 + 3 < R.frames; omega) (by show 0 + (13 * (2 + 1) + 43) ≤ R.locals; omega) (by omega) (by omega) hlocks hfin hS.2.2 (by omega) (by omega)
end
