/-! THE LAW'S WRAPPERS: a call whose throw is caught in its own method -/
/-- what the table does with a thrown e at pc: it stores it and gives v back -/
def hOK (own : String) (cc : ByteArray) (nL : Nat) (tb : List ExceptionTableEntry) (pc e : Nat) (v : Int32) : Prop :=
  (e = 1 ∨ e = 2 ∨ e = 3) ∧ ∃ (pre : List ExceptionTableEntry) (x : ExceptionTableEntry) (suf : List ExceptionTableEntry) (i w : Nat) (n : Int), tb = pre ++ x :: suf ∧ (∀ z ∈ pre, z.catchType ≠ 0 ∧ ∃ b ∈ [1, 2, 3], e ≠ b ∧ Cond.classLink own z.catchType (eName b) ∈ lw_good) ∧ covers x pc = true ∧ x.catchType ≠ 0 ∧ Cond.classLink own x.catchType (eName e) ∈ lw_good ∧ i < nL ∧ ((∃ k : Fin 4, (k : Nat) = i ∧ w = 1 ∧ decode cc x.handlerPc = .ok (.astore_n k, 1)) ∨ (w = 2 ∧ decode cc x.handlerPc = .ok (.astore i, 2))) ∧ decode cc (x.handlerPc + w) = .ok (.iconst n, 1) ∧ Int32.ofInt n = v ∧ decode cc (x.handlerPc + w + 1) = .ok (.ireturn, 1)
theorem self_dcl {e : Nat} (h : e = 1 ∨ e = 2 ∨ e = 3) : Cond.castable (eName e) (eName e) ∈ lw_dcl := by
  rcases h with rfl | rfl | rfl
  · exact List.mem_filter.mpr ⟨tb_ok 426 (by decide +kernel), rfl⟩
  · exact List.mem_filter.mpr ⟨tb_ok 494 (by decide +kernel), rfl⟩
  · exact List.mem_filter.mpr ⟨tb_ok 646 (by decide +kernel), rfl⟩
section
variable {p : Program} {l : Launch} {e : Env} {R : Room} {s : State} {m : MethodId} {args : Array Value} {below : List Frame} {meth : Method} {c : Code}
variable {dC : Nat → ClassId} {dI : Nat → Nat → Nat} {aC : Nat → ClassId} {B nL : Nat} {L0 S0 mc ms : Nat} {o : cO} {cc : ByteArray} {own : String}
theorem catch_end (F : cFix p l R s m args meth c dC dI aC B nL false L0 S0 mc ms o cc own 0) (E : cEnv dC dI aC B s) (hm : L0 + 1 ≤ mc ∧ S0 + 6 ≤ ms) {o' : cO} {pc : Nat} {vs : List (Option Value)} {st0 rest : List Value} {M : cM} {a : Array Value} {free : Addr → Prop} (hfree : ∀ q, free q → B ≤ q)
    (hr : ∀ (H : Heap) (locs : List Loc) (ls : Array Slot), LV B ls nL vs → va_P (dC, dI) vwCl (cW B aC M) H → va_S (fun q => B ≤ q) s.heap H locs → vx_Run p l e R s m args below meth c H locs L0 S0 (mcO false M o') (msO false M o') (F0 m pc ls (st0.map (cV B))) (rest.map (cV B)) (cQ dC dI aC B false o' a) (cXq dC dI aC B o') free)
    (hex : o'.1 = 0 → WA p l e R s m args below meth c dC dI aC B nL false L0 S0 mc ms o (pc + 3) vs (o'.2.1.toList ++ rest) o'.2.2) (hxx : o'.1 ≠ 0 → ∃ v, hOK own cc nL c.exceptionTable.toList pc o'.1 v ∧ o = (0, some (.int v), o'.2.2)) : WA p l e R s m args below meth c dC dI aC B nL false L0 S0 mc ms o pc vs st0 M := by
  obtain ⟨hx, hb, hml, hown, hts, hK, hlocks, hrt, hinit, hB, hmc0, hRc, hRs, hext⟩ := F
  refine ⟨fun q => absurd q (by decide), fun H locs ls cells slots hV hP hS hC T hT X => ?_⟩
  obtain ⟨hc0, hs00⟩ := hC.2 rfl
  subst cells
  subst slots
  rcases hr H locs ls hV hP hS T hT X with ⟨v, st₀, t, T', L, h0, X', hL, e1, e2, ⟨⟨ho, hv, hP1, -⟩, hF⟩, st⟩ | ⟨q, st₀, t, T', L, E9, ce, h0, X', hL, e1, e2, ⟨⟨ho, hE, hP1⟩, hF⟩, hce, hcv, hcl, st⟩
  · cases hv
    have hm0 : mcO false M o' = 0 := by unfold mcO; simp [ho]
    have hs0 : msO false M o' = 0 := by unfold msO; simp [ho]
    rw [hm0, hs0] at X'
    obtain ⟨t2, a1, b1⟩ := (hex ho).2 T'.heap (locs ++ L) ls L0 S0 hV (by rw [e1]; exact hP1) (va_S_join hS h0 e1 (fun q hq => hfree _ (hL q hq)) hF) ⟨fun q => absurd q (by decide), fun _ => ⟨rfl, rfl⟩⟩ T' rfl X'
    refine ⟨t2, st t2 ?_, b1⟩
    have e3 : ((o'.2.1.toList ++ rest).map (cV B)) = (o'.2.1.map (cV B)).toList ++ rest.map (cV B) := by
      cases o'.2.1 <;> simp
    rw [e3] at a1
    exact a1
  · obtain ⟨v, ⟨he, pre, x, suf, i, w, n, hsp, hpre, hcov, hct, hlk, hi, hst, hic, hvv, hir⟩, h9⟩ := hxx ho
    have hm0 : mcO false M o' = 1 := by unfold mcO; simp [ho]
    have hs0 : msO false M o' = 6 := by unfold msO; simp [ho]
    rw [hm0, hs0] at X'
    have hSS := va_S_join (H1 := T'.heap) hS h0 e1 (fun q hq => hfree _ (hL q hq)) hF
    have hcast : (Cond.castable E9 (eName o'.1)).before args s = true := by
      rw [hE]
      exact dcl_warm (self_dcl he) (Vm.Alike.refl s.vm) (E.2.2.2.1 _ (self_dcl he))
    have key : ∀ ls9 : Array Slot, W p l e R s m args below meth c T'.heap (locs ++ L) mc ms (MQ below (cQ dC dI aC B false o) args s mc ms (fun q => B ≤ q)) (F0 m (x.handlerPc + w) ls9 []) := fun ls9 =>
      lv_iconst hx hb hic hvv (W.iret hx hb hrt (fun t ht hW => by subst h9; exact ⟨⟨rfl, rfl, by rw [ht, e1]; exact hP1, fun h => by cases h⟩, hSS.F ht⟩) hSS.2.2 hir hlocks)
    have kk : W p l e R s m args below meth c T'.heap (locs ++ L) (L0 + 1) (S0 + 6) (vx_MQ below (cQ dC dI aC B false o) (cXq dC dI aC B o) args s mc ms (fun q => B ≤ q)) (F0 m x.handlerPc ls [.ref q]) := by
      refine vx_ret (W.widen (k := mc) (n := ms) hm.1 hm.2 ?_)
      rcases hst with ⟨k, hk, rfl, hd⟩ | ⟨rfl, hd⟩
      · exact lv_astore_n (lv := lvOf B vs) hx hb hd hk (LV.has hV) hi rfl (fun ls1 _ => key ls1)
      · exact lv_astore (lv := lvOf B vs) hx hb hd (LV.has hV) hi rfl (fun ls1 _ => key ls1)
    obtain ⟨t2, a1, b1⟩ := vx_catch (own := own) (name := eName o'.1) (E := E9) (ce := ce) (rest := rest.map (cV B)) (pc := pc) hown pre x suf hsp (fun z hz => Or.inr (by
      obtain ⟨g1, b, g2, g3, g4⟩ := hpre z hz
      refine ⟨g1, eName b, hts _ g4, ?_⟩
      rw [hE]
      exact E.2.2.2.2.2.2.2 _ (by rcases he with h | h | h <;> simp [h]) _ g2 g3)) hcov hct (hts _ hlk) hcast (by rw [e1]; exact hce) hcv hcl kk T' rfl X'
    exact ⟨t2, st.trans a1, b1⟩
end
