/-! ONE CALL: CLASS AND REFERENCE AGREE, AND THE INVARIANT IS KEPT -/
def INVn (n : Nat) (M : cM) : Prop := ∃ S : Nat, S ≤ 43 * n ∧ ∃ (D : Tx) (nl : Nat) (CM : Nat → Tx) (SS : Nat → List Int) (EL : Nat → List (Tx × Tx × Nat)) (RF : Nat → List (Tx × Tx)) (PN : Nat → Nat → Option At) (Ls : Nat → Le) (SD : Nat → Bool) (rn : Nat) (RL : Nat → Le) (RC : Nat → Bool) (AK : Nat), ∃ (tx : Nat → ZText) (pg : Nat → ZProg) (le : Nat → ZLearnt) (ln : Nat → ZLine) (tk : Nat → ZTask) (bd : Nat → ZBoard) (vi : Nat → Int32) (va : Nat → Nat → Int32) (vl : Nat → Nat → Int64) (vj : Int64) (la : Option Nat) (me : Nat → Option Nat), M = mk (tx, pg, le, ln, tk, bd, vi, va, vl, vj, la, me) ∧ AC nl SS EL Ls SD rn RL AK ∧ CIn S D nl CM SS EL RF PN Ls SD rn RL RC AK tx pg le ln tk bd vi va vl vj la me ∧ RI D nl CM SS EL RF PN Ls SD rn RL RC AK vi va
def Agr (F n : Nat) (fL : Option (Int32 × cM)) (fM : cM → Option (Int32 × cM)) (w : Int32 → Int64) : Prop := ∃ c v M1 M2, fL = some (c, M1) ∧ fM M1 = some (v, M2) ∧ f_X12_thrown F 570 M2 = some (c, M2) ∧ (c = 0 → ∃ x, aJ M2 632 0 = some x ∧ lg_cmp x (w v) = 0) ∧ INVn (n + 1) M2
section
variable {F : Nat}
theorem out_ok {tx : Nat → ZText} {pg : Nat → ZProg} {le : Nat → ZLearnt} {ln : Nat → ZLine} {tk : Nat → ZTask} {bd : Nat → ZBoard} {vi : Nat → Int32} {va : Nat → Nat → Int32} {vl : Nat → Nat → Int64} {vj : Int64} {la : Option Nat} {me : Nat → Option Nat} {v : Int64} : sJ (mk (tx, pg, le, ln, tk, bd, vi, va, vl, vj, la, me)) 632 0 v = some (mk (tx, pg, le, ln, tk, bd, vi, va, (up vl 632 (vp_updL (vl 632) 0 v)), vj, la, me)) := wOut (i := 0) (by decide) (by decide)
theorem out_rd {tx : Nat → ZText} {pg : Nat → ZProg} {le : Nat → ZLearnt} {ln : Nat → ZLine} {tk : Nat → ZTask} {bd : Nat → ZBoard} {vi : Nat → Int32} {va : Nat → Nat → Int32} {vl : Nat → Nat → Int64} {vj : Int64} {la : Option Nat} {me : Nat → Option Nat} : aJ (mk (tx, pg, le, ln, tk, bd, vi, va, vl, vj, la, me)) 632 0 = some (vl 632 0) := rOut (i := 0) (by decide) (by decide)
theorem vlq {vl : Nat → Nat → Int64} {v : Int64} : up vl 632 (vp_updL (vl 632) 0 v) 632 0 = v := by
  rw [up_same]
  rfl
theorem wjK {x : List (Nat × Int32)} {g : Option (Nat × Int32 × cM)} {v : Int32} {tx : Nat → ZText} {pg : Nat → ZProg} {le : Nat → ZLearnt} {ln : Nat → ZLine} {tk : Nat → ZTask} {bd : Nat → ZBoard} {vi : Nat → Int32} {va : Nat → Nat → Int32} {vl : Nat → Nat → Int64} {vj : Int64} {la : Option Nat} {me : Nat → Option Nat} (e : g = some (0, v, mk (tx, pg, le, ln, tk, bd, vi, va, vl, vj, la, me))) : (g.bind fun p => if p.1 = 0 then ((sJ p.2.2 632 0 p.2.1.toInt64).bind fun M1 => some (0, M1)) else kxW x p.1 p.2.2) = some (0, mk (tx, pg, le, ln, tk, bd, vi, va, (up vl 632 (vp_updL (vl 632) 0 v.toInt64)), vj, la, me)) := by
  rw [e, Option.bind_some]
  dsimp only
  rw [if_pos rfl, out_ok]
  rfl
theorem wjE {x : List (Nat × Int32)} {g : Option (Nat × Int32 × cM)} {k : Nat} {c : Int32} {h : Nat × Int32 × cM → Option (Int32 × cM)} {M : cM} (e : g = some (k, 0, M)) (hk : k ≠ 0) (hx : kxW x k M = some (c, M)) : (g.bind fun p => if p.1 = 0 then h p else kxW x p.1 p.2.2) = some (c, M) := by
  rw [e]
  show (if k = 0 then _ else kxW x k M) = _
  rw [if_neg hk, hx]
theorem wjB {x : List (Nat × Int32)} {g : Option (Nat × Int32 × cM)} {b : Bool} {tx : Nat → ZText} {pg : Nat → ZProg} {le : Nat → ZLearnt} {ln : Nat → ZLine} {tk : Nat → ZTask} {bd : Nat → ZBoard} {vi : Nat → Int32} {va : Nat → Nat → Int32} {vl : Nat → Nat → Int64} {vj : Int64} {la : Option Nat} {me : Nat → Option Nat} (e : g = some (0, I ((b.toNat : Nat) : Int), mk (tx, pg, le, ln, tk, bd, vi, va, vl, vj, la, me))) : (g.bind fun p => if p.1 = 0 then (if p.2.1 = 0 then ((sJ p.2.2 632 0 0).bind fun M1 => some (0, M1)) else ((sJ p.2.2 632 0 1).bind fun M1 => some (0, M1))) else kxW x p.1 p.2.2) = some (0, mk (tx, pg, le, ln, tk, bd, vi, va, (up vl 632 (vp_updL (vl 632) 0 (if b = true then 1 else 0))), vj, la, me)) := by
  cases b
  · have e : g = some (0, I ((0 : Nat) : Int), mk (tx, pg, le, ln, tk, bd, vi, va, vl, vj, la, me)) := e
    rw [e, Option.bind_some]
    dsimp only
    rw [if_pos rfl, if_pos (show I ((0 : Nat) : Int) = 0 from rfl), out_ok]
    rfl
  · have e : g = some (0, I ((1 : Nat) : Int), mk (tx, pg, le, ln, tk, bd, vi, va, vl, vj, la, me)) := e
    rw [e, Option.bind_some]
    dsimp only
    rw [if_pos rfl, if_neg (show ¬ I ((1 : Nat) : Int) = 0 by decide), out_ok]
    rfl
theorem fin_0 {n S' : Nat} {w : Int32 → Int64} {fL : Option (Int32 × cM)} {fM : cM → Option (Int32 × cM)} {v' : Int32} {o : Int64} {D : Tx} {nl : Nat} {CM : Nat → Tx} {SS : Nat → List Int} {EL : Nat → List (Tx × Tx × Nat)} {RF : Nat → List (Tx × Tx)} {PN : Nat → Nat → Option At} {Ls : Nat → Le} {SD : Nat → Bool} {rn : Nat} {RL : Nat → Le} {RC : Nat → Bool} {AK : Nat} {tx : Nat → ZText} {pg : Nat → ZProg} {le : Nat → ZLearnt} {ln : Nat → ZLine} {tk : Nat → ZTask} {bd : Nat → ZBoard} {vi : Nat → Int32} {va : Nat → Nat → Int32} {vl : Nat → Nat → Int64} {vj : Int64} {la : Option Nat} {me : Nat → Option Nat} {vi2 : Nat → Int32} {va2 : Nat → Nat → Int32} {vl2 : Nat → Nat → Int64} (e : fL = some (0, mk (tx, pg, le, ln, tk, bd, vi, va, (up vl 632 (vp_updL (vl 632) 0 o)), vj, la, me))) (hS : S' ≤ 43 * (n + 1)) (hA : AC nl SS EL Ls SD rn RL AK) (hC : CIn S' D nl CM SS EL RF PN Ls SD rn RL RC AK tx pg le ln tk bd vi va vl vj la me) (e2 : fM (mk (tx, pg, le, ln, tk, bd, vi, va, (up vl 632 (vp_updL (vl 632) 0 o)), vj, la, me)) = some (v', mk (tx, pg, le, ln, tk, bd, (vi2), (va2), (vl2), vj, la, me))) (hR : RI D nl CM SS EL RF PN Ls SD rn RL RC AK vi2 va2) (ht : vi2 1000 = I ((0 : Nat) : Int)) (hD : frD vi vi2 va va2) (hvl : ∀ K, K ≠ 622 → vl2 K = up vl 632 (vp_updL (vl 632) 0 o) K) (hv : w v' = o) : Agr F n fL fM w := by
  refine ⟨0, v', _, _, e, e2, ?_, fun _ => ⟨_, out_rd, ?_⟩, S', hS, D, nl, CM, SS, EL, RF, PN, Ls, SD, rn, RL, RC, AK, tx, pg, le, ln, tk, bd, vi2, va2, vl2, vj, la, me, rfl, hA, ?_, hR⟩
  · rw [m_thrown, ht]
    rfl
  · rw [hvl 632 (by decide), vlq, hv, lg_cmp_self]
  · exact CI_vi hD.1 hD.2 (fun K hK => by rw [hvl K (by omega), up_ne (by omega)]) hC
theorem fin_K {n S' : Nat} {w : Int32 → Int64} {fL : Option (Int32 × cM)} {fM : cM → Option (Int32 × cM)} {g : Option (Nat × Int32 × cM)} {x : List (Nat × Int32)} {v v' : Int32} {D : Tx} {nl : Nat} {CM : Nat → Tx} {SS : Nat → List Int} {EL : Nat → List (Tx × Tx × Nat)} {RF : Nat → List (Tx × Tx)} {PN : Nat → Nat → Option At} {Ls : Nat → Le} {SD : Nat → Bool} {rn : Nat} {RL : Nat → Le} {RC : Nat → Bool} {AK : Nat} {tx : Nat → ZText} {pg : Nat → ZProg} {le : Nat → ZLearnt} {ln : Nat → ZLine} {tk : Nat → ZTask} {bd : Nat → ZBoard} {vi : Nat → Int32} {va : Nat → Nat → Int32} {vl : Nat → Nat → Int64} {vj : Int64} {la : Option Nat} {me : Nat → Option Nat} {vi2 : Nat → Int32} {va2 : Nat → Nat → Int32} {vl2 : Nat → Nat → Int64} (hL : fL = g.bind fun p => if p.1 = 0 then ((sJ p.2.2 632 0 p.2.1.toInt64).bind fun M1 => some (0, M1)) else kxW x p.1 p.2.2) (e : g = some (0, v, mk (tx, pg, le, ln, tk, bd, vi, va, vl, vj, la, me))) (hS : S' ≤ 43 * (n + 1)) (hA : AC nl SS EL Ls SD rn RL AK) (hC : CIn S' D nl CM SS EL RF PN Ls SD rn RL RC AK tx pg le ln tk bd vi va vl vj la me) (e2 : fM (mk (tx, pg, le, ln, tk, bd, vi, va, (up vl 632 (vp_updL (vl 632) 0 v.toInt64)), vj, la, me)) = some (v', mk (tx, pg, le, ln, tk, bd, (vi2), (va2), (vl2), vj, la, me))) (hR : RI D nl CM SS EL RF PN Ls SD rn RL RC AK vi2 va2) (ht : vi2 1000 = I ((0 : Nat) : Int)) (hD : frD vi vi2 va va2) (hvl : ∀ K, K ≠ 622 → vl2 K = up vl 632 (vp_updL (vl 632) 0 v.toInt64) K) (hv : w v' = v.toInt64) : Agr F n fL fM w := fin_0 (hL.trans (wjK e)) hS hA hC e2 hR ht hD hvl hv
theorem fin_E {n S' : Nat} {w : Int32 → Int64} {fL : Option (Int32 × cM)} {fM : cM → Option (Int32 × cM)} {g : Option (Nat × Int32 × cM)} {h : Nat × Int32 × cM → Option (Int32 × cM)} {x : List (Nat × Int32)} {k : Nat} {c v' : Int32} {D : Tx} {nl : Nat} {CM : Nat → Tx} {SS : Nat → List Int} {EL : Nat → List (Tx × Tx × Nat)} {RF : Nat → List (Tx × Tx)} {PN : Nat → Nat → Option At} {Ls : Nat → Le} {SD : Nat → Bool} {rn : Nat} {RL : Nat → Le} {RC : Nat → Bool} {AK : Nat} {tx : Nat → ZText} {pg : Nat → ZProg} {le : Nat → ZLearnt} {ln : Nat → ZLine} {tk : Nat → ZTask} {bd : Nat → ZBoard} {vi : Nat → Int32} {va : Nat → Nat → Int32} {vl : Nat → Nat → Int64} {vj : Int64} {la : Option Nat} {me : Nat → Option Nat} {vi2 : Nat → Int32} {va2 : Nat → Nat → Int32} {vl2 : Nat → Nat → Int64} (hL : fL = g.bind fun p => if p.1 = 0 then h p else kxW x p.1 p.2.2) (e : g = some (k, 0, mk (tx, pg, le, ln, tk, bd, vi, va, vl, vj, la, me))) (hk : k ≠ 0) (hx : kxW x k (mk (tx, pg, le, ln, tk, bd, vi, va, vl, vj, la, me)) = some (c, mk (tx, pg, le, ln, tk, bd, vi, va, vl, vj, la, me))) (hc : c ≠ 0) (hS : S' ≤ 43 * (n + 1)) (hA : AC nl SS EL Ls SD rn RL AK) (hC : CIn S' D nl CM SS EL RF PN Ls SD rn RL RC AK tx pg le ln tk bd vi va vl vj la me) (e2 : fM (mk (tx, pg, le, ln, tk, bd, vi, va, vl, vj, la, me)) = some (v', mk (tx, pg, le, ln, tk, bd, (vi2), (va2), (vl2), vj, la, me))) (hR : RI D nl CM SS EL RF PN Ls SD rn RL RC AK vi2 va2) (ht : vi2 1000 = c) (hD : frD vi vi2 va va2) (hvl : ∀ K, K ≠ 622 → vl2 K = vl K) : Agr F n fL fM w := by
  refine ⟨c, v', _, _, hL.trans (wjE e hk hx), e2, ?_, fun q => absurd q hc, S', hS, D, nl, CM, SS, EL, RF, PN, Ls, SD, rn, RL, RC, AK, tx, pg, le, ln, tk, bd, vi2, va2, vl2, vj, la, me, rfl, hA, ?_, hR⟩
  · rw [m_thrown, ht]
  · exact CI_vi hD.1 hD.2 (fun K hK => hvl K (by omega)) hC
theorem pcx_length {n : Nat} {M : cM} (hF : 200000 ≤ F) (hn : n ≤ 600) (hI : INVn n M) (l : Int32) : Agr F n (f_L_length F 0 l 632 M) (fun M => f_X12_length F 570 l M) (fun v => v.toInt64) := by
  obtain ⟨S, hS, D, nl, CM, SS, EL, RF, PN, Ls, SD, rn, RL, RC, AK, tx, pg, le, ln, tk, bd, vi, va, vl, vj, la, me, rfl, hA, hC, hR⟩ := hI
  have n8 := hA.1
  have r30 := hA.2.1
  have hlc := hC.2.2.1.1
  have hrc := hC.2.2.1.2.1
  have hml := hR.2.1.1
  have hmr := hR.2.1.2.1
  have hE : ∀ T, T < 3 → (EL T).length ≤ 4 := fun T hT => (hA.2.2.2.2.2.2.2 T hT).1
  have hnow : ∀ a, a < nl → txt (tx (aLine_now (eScript_lines a))) (nowT EL RL RC (CM a) (SS a)) := fun a ha => ((hC.2.2.2.1 a (by omega)).1 ha).2
  have hlrn : ∀ T, T < 3 → lrn (le (aTask_learnt (eScript_tasks T))) (pg (aLearnt_first (aTask_learnt (eScript_tasks T)))) (pg (aLearnt_second (aTask_learnt (eScript_tasks T)))) (Ls T) := fun T hT => (hC.2.2.2.2.1 T hT).2.2.2.2.2.1
  obtain ⟨l, rfl, l0, l1⟩ := I_ex l
  by_cases c : 0 ≤ l ∧ l < nl
  · obtain ⟨a, rfl⟩ : ∃ a : Nat, l = a := ⟨l.toNat, by omega⟩
    have ha : a < nl := by omega
    have e := x_lengthK (F := F) (tx := tx) (pg := pg) (le := le) (ln := ln) (tk := tk) (bd := bd) (vi := vi) (va := va) (vl := vl) (vj := vj) (la := la) (me := me) hlc n8 ha (hnow a ha)
    obtain ⟨vi2, va2, e2, h1, h2, h3⟩ := m_lengthK (F := F) (l := a) (tx := tx) (pg := pg) (le := le) (ln := ln) (tk := tk) (bd := bd) (vi := vi) (va := va) (vl := up vl 632 (vp_updL (vl 632) 0 (I ((nowT EL RL RC (CM a) (SS a)).length : Nat)).toInt64)) (vj := vj) (la := la) (me := me) hF ha hA hR
    exact fin_K (wq_length F 0 _ 632 _) e (by omega) hA hC e2 h1 h2 h3 (fun _ _ => rfl) rfl
  · have e := x_lengthE (F := F) (tx := tx) (pg := pg) (le := le) (ln := ln) (tk := tk) (bd := bd) (vi := vi) (va := va) (vl := vl) (vj := vj) (la := la) (me := me) l0 l1 hlc n8 c
    have e2 := m_lengthE (F := F) (tx := tx) (pg := pg) (le := le) (ln := ln) (tk := tk) (bd := bd) (vi := vi) (va := va) (vl := vl) (vj := vj) (la := la) (me := me) l0 l1 hml n8 c
    exact fin_E (wq_length F 0 _ 632 _) e (by decide) rfl (by decide) (by omega) hA hC e2 (RI_thr r30 hR) (by rw [up_same]; rfl) frD_thr (fun _ _ => rfl)
theorem pcx_signAt {n : Nat} {M : cM} (hF : 200000 ≤ F) (hn : n ≤ 600) (hI : INVn n M) (l p : Int32) : Agr F n (f_L_signAt F 0 l p 632 M) (fun M => f_X12_signAt F 570 l p M) (fun v => v.toInt64) := by
  obtain ⟨S, hS, D, nl, CM, SS, EL, RF, PN, Ls, SD, rn, RL, RC, AK, tx, pg, le, ln, tk, bd, vi, va, vl, vj, la, me, rfl, hA, hC, hR⟩ := hI
  have n8 := hA.1
  have r30 := hA.2.1
  have hlc := hC.2.2.1.1
  have hrc := hC.2.2.1.2.1
  have hml := hR.2.1.1
  have hmr := hR.2.1.2.1
  have hE : ∀ T, T < 3 → (EL T).length ≤ 4 := fun T hT => (hA.2.2.2.2.2.2.2 T hT).1
  have hnow : ∀ a, a < nl → txt (tx (aLine_now (eScript_lines a))) (nowT EL RL RC (CM a) (SS a)) := fun a ha => ((hC.2.2.2.1 a (by omega)).1 ha).2
  have hlrn : ∀ T, T < 3 → lrn (le (aTask_learnt (eScript_tasks T))) (pg (aLearnt_first (aTask_learnt (eScript_tasks T)))) (pg (aLearnt_second (aTask_learnt (eScript_tasks T)))) (Ls T) := fun T hT => (hC.2.2.2.2.1 T hT).2.2.2.2.2.1
  obtain ⟨l, rfl, l0, l1⟩ := I_ex l
  obtain ⟨p, rfl, p0, p1⟩ := I_ex p
  by_cases c : 0 ≤ l ∧ l < nl
  · obtain ⟨a, rfl⟩ : ∃ a : Nat, l = a := ⟨l.toNat, by omega⟩
    have ha : a < nl := by omega
    by_cases c2 : 0 ≤ p ∧ p < (nowT EL RL RC (CM a) (SS a)).length
    · obtain ⟨p2, rfl⟩ : ∃ p2 : Nat, p = p2 := ⟨p.toNat, by omega⟩
      have hp : p2 < (nowT EL RL RC (CM a) (SS a)).length := by omega
      have e := x_signAtK (F := F) (tx := tx) (pg := pg) (le := le) (ln := ln) (tk := tk) (bd := bd) (vi := vi) (va := va) (vl := vl) (vj := vj) (la := la) (me := me) hlc n8 ha (hnow a ha) hp
      obtain ⟨vi2, va2, e2, h1, h2, h3⟩ := m_signAtK (F := F) (l := a) (p := p2) (tx := tx) (pg := pg) (le := le) (ln := ln) (tk := tk) (bd := bd) (vi := vi) (va := va) (vl := up vl 632 (vp_updL (vl 632) 0 (I (fa (nowT EL RL RC (CM a) (SS a)) p2)).toInt64)) (vj := vj) (la := la) (me := me) hF ha hp hA hR
      exact fin_K (wq_signAt F 0 _ _ 632 _) e (by omega) hA hC e2 h1 h2 h3 (fun _ _ => rfl) rfl
    · have e := x_signAtE2 (F := F) (tx := tx) (pg := pg) (le := le) (ln := ln) (tk := tk) (bd := bd) (vi := vi) (va := va) (vl := vl) (vj := vj) (la := la) (me := me) p0 p1 hlc n8 ha (hnow a ha) c2
      obtain ⟨vi2, va2, v, e2, h1, h2, h3⟩ := m_signAtE2 (F := F) (l := a) (p := p) (tx := tx) (pg := pg) (le := le) (ln := ln) (tk := tk) (bd := bd) (vi := vi) (va := va) (vl := vl) (vj := vj) (la := la) (me := me) hF ha p0 p1 c2 hA hR
      exact fin_E (wq_signAt F 0 _ _ 632 _) e (by decide) rfl (by decide) (by omega) hA hC e2 h1 h2 h3 (fun _ _ => rfl)
  · have e := x_signAtE (F := F) (p := I p) (tx := tx) (pg := pg) (le := le) (ln := ln) (tk := tk) (bd := bd) (vi := vi) (va := va) (vl := vl) (vj := vj) (la := la) (me := me) l0 l1 hlc n8 c
    have e2 := m_signAtE (F := F) (p := I p) (tx := tx) (pg := pg) (le := le) (ln := ln) (tk := tk) (bd := bd) (vi := vi) (va := va) (vl := vl) (vj := vj) (la := la) (me := me) l0 l1 hml n8 c
    exact fin_E (wq_signAt F 0 _ _ 632 _) e (by decide) rfl (by decide) (by omega) hA hC e2 (RI_thr r30 hR) (by rw [up_same]; rfl) frD_thr (fun _ _ => rfl)
theorem pcx_placeOf {n : Nat} {M : cM} (hF : 200000 ≤ F) (hn : n ≤ 600) (hI : INVn n M) (l p : Int32) : Agr F n (f_L_placeOf F 0 l p 632 M) (fun M => f_X12_placeOf F 570 l p M) (fun v => v.toInt64) := by
  obtain ⟨S, hS, D, nl, CM, SS, EL, RF, PN, Ls, SD, rn, RL, RC, AK, tx, pg, le, ln, tk, bd, vi, va, vl, vj, la, me, rfl, hA, hC, hR⟩ := hI
  have n8 := hA.1
  have r30 := hA.2.1
  have hlc := hC.2.2.1.1
  have hrc := hC.2.2.1.2.1
  have hml := hR.2.1.1
  have hmr := hR.2.1.2.1
  have hE : ∀ T, T < 3 → (EL T).length ≤ 4 := fun T hT => (hA.2.2.2.2.2.2.2 T hT).1
  have hnow : ∀ a, a < nl → txt (tx (aLine_now (eScript_lines a))) (nowT EL RL RC (CM a) (SS a)) := fun a ha => ((hC.2.2.2.1 a (by omega)).1 ha).2
  have hlrn : ∀ T, T < 3 → lrn (le (aTask_learnt (eScript_tasks T))) (pg (aLearnt_first (aTask_learnt (eScript_tasks T)))) (pg (aLearnt_second (aTask_learnt (eScript_tasks T)))) (Ls T) := fun T hT => (hC.2.2.2.2.1 T hT).2.2.2.2.2.1
  obtain ⟨l, rfl, l0, l1⟩ := I_ex l
  obtain ⟨p, rfl, p0, p1⟩ := I_ex p
  by_cases c : 0 ≤ l ∧ l < nl
  · obtain ⟨a, rfl⟩ : ∃ a : Nat, l = a := ⟨l.toNat, by omega⟩
    have ha : a < nl := by omega
    by_cases c2 : 0 ≤ p ∧ p < 30
    · obtain ⟨p2, rfl⟩ : ∃ p2 : Nat, p = p2 := ⟨p.toNat, by omega⟩
      have hp : p2 < 30 := by omega
      have e := x_placeOfK (F := F) (tx := tx) (pg := pg) (le := le) (ln := ln) (tk := tk) (bd := bd) (vi := vi) (va := va) (vl := vl) (vj := vj) (la := la) (me := me) hF hlc n8 ha (hnow a ha) hp
      obtain ⟨vi2, va2, e2, h1, h2, h3⟩ := m_placeOfK (F := F) (l := a) (p := p2) (tx := tx) (pg := pg) (le := le) (ln := ln) (tk := tk) (bd := bd) (vi := vi) (va := va) (vl := up vl 632 (vp_updL (vl 632) 0 (I (plc (nowT EL RL RC (CM a) (SS a)) p2)).toInt64)) (vj := vj) (la := la) (me := me) hF ha hp hA hR
      exact fin_K (wq_placeOf F 0 _ _ 632 _) e (by omega) hA hC e2 h1 h2 h3 (fun _ _ => rfl) rfl
    · have e := x_placeOfE2 (F := F) (tx := tx) (pg := pg) (le := le) (ln := ln) (tk := tk) (bd := bd) (vi := vi) (va := va) (vl := vl) (vj := vj) (la := la) (me := me) p0 p1 hlc n8 ha c2
      have e2 := m_placeOfE2 (F := F) (tx := tx) (pg := pg) (le := le) (ln := ln) (tk := tk) (bd := bd) (vi := vi) (va := va) (vl := vl) (vj := vj) (la := la) (me := me) p0 p1 hml n8 ha c2
      exact fin_E (wq_placeOf F 0 _ _ 632 _) e (by decide) rfl (by decide) (by omega) hA hC e2 (RI_thr r30 hR) (by rw [up_same]; rfl) frD_thr (fun _ _ => rfl)
  · have e := x_placeOfE (F := F) (p := I p) (tx := tx) (pg := pg) (le := le) (ln := ln) (tk := tk) (bd := bd) (vi := vi) (va := va) (vl := vl) (vj := vj) (la := la) (me := me) l0 l1 hlc n8 c
    have e2 := m_placeOfE (F := F) (p := I p) (tx := tx) (pg := pg) (le := le) (ln := ln) (tk := tk) (bd := bd) (vi := vi) (va := va) (vl := vl) (vj := vj) (la := la) (me := me) l0 l1 hml n8 c
    exact fin_E (wq_placeOf F 0 _ _ 632 _) e (by decide) rfl (by decide) (by omega) hA hC e2 (RI_thr r30 hR) (by rw [up_same]; rfl) frD_thr (fun _ _ => rfl)
theorem pcx_condition {n : Nat} {M : cM} (hF : 200000 ≤ F) (hn : n ≤ 600) (hI : INVn n M) (t : Int32) : Agr F n (f_L_condition F 0 t 632 M) (fun M => f_X12_condition F 570 t M) (fun v => v.toInt64) := by
  obtain ⟨S, hS, D, nl, CM, SS, EL, RF, PN, Ls, SD, rn, RL, RC, AK, tx, pg, le, ln, tk, bd, vi, va, vl, vj, la, me, rfl, hA, hC, hR⟩ := hI
  have n8 := hA.1
  have r30 := hA.2.1
  have hlc := hC.2.2.1.1
  have hrc := hC.2.2.1.2.1
  have hml := hR.2.1.1
  have hmr := hR.2.1.2.1
  have hE : ∀ T, T < 3 → (EL T).length ≤ 4 := fun T hT => (hA.2.2.2.2.2.2.2 T hT).1
  have hnow : ∀ a, a < nl → txt (tx (aLine_now (eScript_lines a))) (nowT EL RL RC (CM a) (SS a)) := fun a ha => ((hC.2.2.2.1 a (by omega)).1 ha).2
  have hlrn : ∀ T, T < 3 → lrn (le (aTask_learnt (eScript_tasks T))) (pg (aLearnt_first (aTask_learnt (eScript_tasks T)))) (pg (aLearnt_second (aTask_learnt (eScript_tasks T)))) (Ls T) := fun T hT => (hC.2.2.2.2.1 T hT).2.2.2.2.2.1
  obtain ⟨t, rfl, t0, t1⟩ := I_ex t
  by_cases c : 0 ≤ t ∧ t < 3
  · obtain ⟨T, rfl⟩ : ∃ T : Nat, t = T := ⟨t.toNat, by omega⟩
    have hT : T < 3 := by omega
    have e := x_conditionK (F := F) (tx := tx) (pg := pg) (le := le) (ln := ln) (tk := tk) (bd := bd) (vi := vi) (va := va) (vl := vl) (vj := vj) (la := la) (me := me) hT (hlrn T hT)
    have e2 := m_conditionK (F := F) (T := T) (tx := tx) (pg := pg) (le := le) (ln := ln) (tk := tk) (bd := bd) (vi := vi) (va := va) (vl := up vl 632 (vp_updL (vl 632) 0 (I (cdL (Ls T))).toInt64)) (vj := vj) (la := la) (me := me) hT hR
    exact fin_K (wq_condition F 0 _ 632 _) e (by omega) hA hC e2 (RI_thr r30 hR) up_same frD_thr (fun _ _ => rfl) rfl
  · have e := x_conditionE (F := F) (tx := tx) (pg := pg) (le := le) (ln := ln) (tk := tk) (bd := bd) (vi := vi) (va := va) (vl := vl) (vj := vj) (la := la) (me := me) t0 t1 c
    have e2 := m_conditionE (F := F) (tx := tx) (pg := pg) (le := le) (ln := ln) (tk := tk) (bd := bd) (vi := vi) (va := va) (vl := vl) (vj := vj) (la := la) (me := me) t0 t1 c
    exact fin_E (wq_condition F 0 _ 632 _) e (by decide) rfl (by decide) (by omega) hA hC e2 (RI_thr r30 hR) (by rw [up_same]; rfl) frD_thr (fun _ _ => rfl)
theorem pcx_atomAt {n : Nat} {M : cM} (hF : 200000 ≤ F) (hn : n ≤ 600) (hI : INVn n M) (t e p w : Int32) (he : e = 0 ∨ e = 1) : Agr F n (f_L_atomAt F 0 t e p w 632 M) (fun M => f_X12_atomAt F 570 t e p w M) (fun v => v.toInt64) := by
  obtain ⟨S, hS, D, nl, CM, SS, EL, RF, PN, Ls, SD, rn, RL, RC, AK, tx, pg, le, ln, tk, bd, vi, va, vl, vj, la, me, rfl, hA, hC, hR⟩ := hI
  have n8 := hA.1
  have r30 := hA.2.1
  have hlc := hC.2.2.1.1
  have hrc := hC.2.2.1.2.1
  have hml := hR.2.1.1
  have hmr := hR.2.1.2.1
  have hE : ∀ T, T < 3 → (EL T).length ≤ 4 := fun T hT => (hA.2.2.2.2.2.2.2 T hT).1
  have hnow : ∀ a, a < nl → txt (tx (aLine_now (eScript_lines a))) (nowT EL RL RC (CM a) (SS a)) := fun a ha => ((hC.2.2.2.1 a (by omega)).1 ha).2
  have hlrn : ∀ T, T < 3 → lrn (le (aTask_learnt (eScript_tasks T))) (pg (aLearnt_first (aTask_learnt (eScript_tasks T)))) (pg (aLearnt_second (aTask_learnt (eScript_tasks T)))) (Ls T) := fun T hT => (hC.2.2.2.2.1 T hT).2.2.2.2.2.1
  obtain ⟨t, rfl, t0, t1⟩ := I_ex t
  obtain ⟨p, rfl, p0, p1⟩ := I_ex p
  obtain ⟨w, rfl, w0, w1⟩ := I_ex w
  obtain ⟨el, hel, rfl⟩ : ∃ el : Nat, el ≤ 1 ∧ e = I (el : Nat) := by
    rcases he with rfl | rfl
    · exact ⟨0, by decide, rfl⟩
    · exact ⟨1, by decide, rfl⟩
  by_cases c : 0 ≤ t ∧ t < 3
  · obtain ⟨T, rfl⟩ : ∃ T : Nat, t = T := ⟨t.toNat, by omega⟩
    have hT : T < 3 := by omega
    by_cases c2 : 0 ≤ p
    · by_cases c3 : 0 ≤ w ∧ w ≤ 4
      · obtain ⟨p2, rfl⟩ : ∃ p2 : Nat, p = p2 := ⟨p.toNat, by omega⟩
        obtain ⟨w2, rfl⟩ : ∃ w2 : Nat, w = w2 := ⟨w.toNat, by omega⟩
        have e := x_atomAtK (F := F) (el := el) (p := p2) (w := w2) (tx := tx) (pg := pg) (le := le) (ln := ln) (tk := tk) (bd := bd) (vi := vi) (va := va) (vl := vl) (vj := vj) (la := la) (me := me) hF hT hel (hlrn T hT) (by omega) (by omega)
        have e2 := m_atomAtK (F := F) (T := T) (el := el) (p := p2) (w := w2) (tx := tx) (pg := pg) (le := le) (ln := ln) (tk := tk) (bd := bd) (vi := vi) (va := va) (vl := up vl 632 (vp_updL (vl 632) 0 (I (atL (Ls T) el p2 w2)).toInt64)) (vj := vj) (la := la) (me := me) hT hel (by omega) (by omega) hR
        exact fin_K (wq_atomAt F 0 _ _ _ _ 632 _) e (by omega) hA hC e2 (RI_thr r30 hR) up_same frD_thr (fun _ _ => rfl) rfl
      · have e := x_atomAtE3 (F := F) (e := I (el : Nat)) (tx := tx) (pg := pg) (le := le) (ln := ln) (tk := tk) (bd := bd) (vi := vi) (va := va) (vl := vl) (vj := vj) (la := la) (me := me) hT c2 p1 w0 w1 c3
        have e2 := m_atomAtE3 (F := F) (e := I (el : Nat)) (tx := tx) (pg := pg) (le := le) (ln := ln) (tk := tk) (bd := bd) (vi := vi) (va := va) (vl := vl) (vj := vj) (la := la) (me := me) hT c2 p1 w0 w1 c3
        exact fin_E (wq_atomAt F 0 _ _ _ _ 632 _) e (by decide) rfl (by decide) (by omega) hA hC e2 (RI_thr r30 hR) (by rw [up_same]; rfl) frD_thr (fun _ _ => rfl)
    · have e := x_atomAtE2 (F := F) (e := I (el : Nat)) (w := I w) (tx := tx) (pg := pg) (le := le) (ln := ln) (tk := tk) (bd := bd) (vi := vi) (va := va) (vl := vl) (vj := vj) (la := la) (me := me) hT p0 (show p < 0 by omega)
      have e2 := m_atomAtE2 (F := F) (e := I (el : Nat)) (w := I w) (tx := tx) (pg := pg) (le := le) (ln := ln) (tk := tk) (bd := bd) (vi := vi) (va := va) (vl := vl) (vj := vj) (la := la) (me := me) hT p0 (show p < 0 by omega)
      exact fin_E (wq_atomAt F 0 _ _ _ _ 632 _) e (by decide) rfl (by decide) (by omega) hA hC e2 (RI_thr r30 hR) (by rw [up_same]; rfl) frD_thr (fun _ _ => rfl)
  · have e := x_atomAtE (F := F) (e := I (el : Nat)) (p := I p) (w := I w) (tx := tx) (pg := pg) (le := le) (ln := ln) (tk := tk) (bd := bd) (vi := vi) (va := va) (vl := vl) (vj := vj) (la := la) (me := me) t0 t1 c
    have e2 := m_atomAtE (F := F) (e := I (el : Nat)) (p := I p) (w := I w) (tx := tx) (pg := pg) (le := le) (ln := ln) (tk := tk) (bd := bd) (vi := vi) (va := va) (vl := vl) (vj := vj) (la := la) (me := me) t0 t1 c
    exact fin_E (wq_atomAt F 0 _ _ _ _ 632 _) e (by decide) rfl (by decide) (by omega) hA hC e2 (RI_thr r30 hR) (by rw [up_same]; rfl) frD_thr (fun _ _ => rfl)
theorem pcx_preview {n : Nat} {M : cM} (hF : 200000 ≤ F) (hn : n ≤ 600) (hI : INVn n M) (t l p : Int32) : Agr F n (f_L_preview F 0 t l p 632 M) (fun M => f_X12_preview F 570 t l p M) (fun v => v.toInt64) := by
  obtain ⟨S, hS, D, nl, CM, SS, EL, RF, PN, Ls, SD, rn, RL, RC, AK, tx, pg, le, ln, tk, bd, vi, va, vl, vj, la, me, rfl, hA, hC, hR⟩ := hI
  have n8 := hA.1
  have r30 := hA.2.1
  have hlc := hC.2.2.1.1
  have hrc := hC.2.2.1.2.1
  have hml := hR.2.1.1
  have hmr := hR.2.1.2.1
  have hE : ∀ T, T < 3 → (EL T).length ≤ 4 := fun T hT => (hA.2.2.2.2.2.2.2 T hT).1
  have hnow : ∀ a, a < nl → txt (tx (aLine_now (eScript_lines a))) (nowT EL RL RC (CM a) (SS a)) := fun a ha => ((hC.2.2.2.1 a (by omega)).1 ha).2
  have hlrn : ∀ T, T < 3 → lrn (le (aTask_learnt (eScript_tasks T))) (pg (aLearnt_first (aTask_learnt (eScript_tasks T)))) (pg (aLearnt_second (aTask_learnt (eScript_tasks T)))) (Ls T) := fun T hT => (hC.2.2.2.2.1 T hT).2.2.2.2.2.1
  obtain ⟨t, rfl, t0, t1⟩ := I_ex t
  obtain ⟨l, rfl, l0, l1⟩ := I_ex l
  obtain ⟨p, rfl, p0, p1⟩ := I_ex p
  by_cases c : 0 ≤ t ∧ t < 3
  · obtain ⟨T, rfl⟩ : ∃ T : Nat, t = T := ⟨t.toNat, by omega⟩
    have hT : T < 3 := by omega
    by_cases c2 : 0 ≤ l ∧ l < nl
    · obtain ⟨a, rfl⟩ : ∃ a : Nat, l = a := ⟨l.toNat, by omega⟩
      have ha : a < nl := by omega
      by_cases c3 : 0 ≤ p
      · obtain ⟨p2, rfl⟩ : ∃ p2 : Nat, p = p2 := ⟨p.toNat, by omega⟩
        obtain ⟨u0, hu0⟩ := hC.2.1.1
        obtain ⟨v, u, hv, e⟩ := x_previewK (F := F) (p := p2) (tx := tx) (pg := pg) (le := le) (ln := ln) (tk := tk) (bd := bd) (vi := vi) (va := va) (vl := vl) (vj := vj) (la := la) (me := me) hF hT hlc n8 ha (hlrn T hT) (hnow a ha) hu0 (by omega)
        obtain ⟨vi2, va2, e2, h1, h2, h3⟩ := m_previewK (F := F) (T := T) (l := a) (p := p2) (tx := up tx aScript_made v) (pg := pg) (le := le) (ln := ln) (tk := tk) (bd := bd) (vi := vi) (va := va) (vl := up vl 632 (vp_updL (vl 632) 0 (I (pvS (mkL (Ls T) (nowT EL RL RC (CM a) (SS a))) p2)).toInt64)) (vj := vj) (la := la) (me := me) hF hT ha (by omega) hA hR
        exact fin_K (wq_preview F 0 _ _ _ 632 _) e (by omega) hA (CI_made hE hv hC) e2 h1 h2 h3 (fun _ _ => rfl) rfl
      · have e := x_previewE3 (F := F) (tx := tx) (pg := pg) (le := le) (ln := ln) (tk := tk) (bd := bd) (vi := vi) (va := va) (vl := vl) (vj := vj) (la := la) (me := me) hT hlc n8 ha p0 (show p < 0 by omega)
        have e2 := m_previewE3 (F := F) (tx := tx) (pg := pg) (le := le) (ln := ln) (tk := tk) (bd := bd) (vi := vi) (va := va) (vl := vl) (vj := vj) (la := la) (me := me) hT hml n8 ha p0 (show p < 0 by omega)
        exact fin_E (wq_preview F 0 _ _ _ 632 _) e (by decide) rfl (by decide) (by omega) hA hC e2 (RI_thr r30 hR) (by rw [up_same]; rfl) frD_thr (fun _ _ => rfl)
    · have e := x_previewE2 (F := F) (p := I p) (tx := tx) (pg := pg) (le := le) (ln := ln) (tk := tk) (bd := bd) (vi := vi) (va := va) (vl := vl) (vj := vj) (la := la) (me := me) hT l0 l1 hlc n8 c2
      have e2 := m_previewE2 (F := F) (p := I p) (tx := tx) (pg := pg) (le := le) (ln := ln) (tk := tk) (bd := bd) (vi := vi) (va := va) (vl := vl) (vj := vj) (la := la) (me := me) hT l0 l1 hml n8 c2
      exact fin_E (wq_preview F 0 _ _ _ 632 _) e (by decide) rfl (by decide) (by omega) hA hC e2 (RI_thr r30 hR) (by rw [up_same]; rfl) frD_thr (fun _ _ => rfl)
  · have e := x_previewE (F := F) (l := I l) (p := I p) (tx := tx) (pg := pg) (le := le) (ln := ln) (tk := tk) (bd := bd) (vi := vi) (va := va) (vl := vl) (vj := vj) (la := la) (me := me) t0 t1 c
    have e2 := m_previewE (F := F) (l := I l) (p := I p) (tx := tx) (pg := pg) (le := le) (ln := ln) (tk := tk) (bd := bd) (vi := vi) (va := va) (vl := vl) (vj := vj) (la := la) (me := me) t0 t1 c
    exact fin_E (wq_preview F 0 _ _ _ 632 _) e (by decide) rfl (by decide) (by omega) hA hC e2 (RI_thr r30 hR) (by rw [up_same]; rfl) frD_thr (fun _ _ => rfl)
theorem pcx_count {n : Nat} {M : cM} (hF : 200000 ≤ F) (hn : n ≤ 600) (hI : INVn n M) (t : Int32) : Agr F n (f_L_count F 0 t 632 M) (fun M => f_X12_count F 570 t M) (fun v => v.toInt64) := by
  obtain ⟨S, hS, D, nl, CM, SS, EL, RF, PN, Ls, SD, rn, RL, RC, AK, tx, pg, le, ln, tk, bd, vi, va, vl, vj, la, me, rfl, hA, hC, hR⟩ := hI
  have n8 := hA.1
  have r30 := hA.2.1
  have hlc := hC.2.2.1.1
  have hrc := hC.2.2.1.2.1
  have hml := hR.2.1.1
  have hmr := hR.2.1.2.1
  have hE : ∀ T, T < 3 → (EL T).length ≤ 4 := fun T hT => (hA.2.2.2.2.2.2.2 T hT).1
  have hnow : ∀ a, a < nl → txt (tx (aLine_now (eScript_lines a))) (nowT EL RL RC (CM a) (SS a)) := fun a ha => ((hC.2.2.2.1 a (by omega)).1 ha).2
  have hlrn : ∀ T, T < 3 → lrn (le (aTask_learnt (eScript_tasks T))) (pg (aLearnt_first (aTask_learnt (eScript_tasks T)))) (pg (aLearnt_second (aTask_learnt (eScript_tasks T)))) (Ls T) := fun T hT => (hC.2.2.2.2.1 T hT).2.2.2.2.2.1
  obtain ⟨t, rfl, t0, t1⟩ := I_ex t
  by_cases c : 0 ≤ t ∧ t < 3
  · obtain ⟨T, rfl⟩ : ∃ T : Nat, t = T := ⟨t.toNat, by omega⟩
    have hT : T < 3 := by omega
    obtain ⟨S', tx', pg', tk', bd', vi', va', vl', vj', la', me', e, h1, h2, h3⟩ := x_countK (F := F) hF hT (show S + 1 < 4000000000 by omega) hA hC
    obtain ⟨vi2, va2, vl2, e2, k1, k2, k3, k4⟩ := m_countK (F := F) (T := T) (tx := tx') (pg := pg') (le := le) (ln := ln) (tk := tk') (bd := bd') (vi := vi') (va := va') (vl := up vl' 632 (vp_updL (vl' 632) 0 (I ((bstT (EL T) (PN T)).length : Nat)).toInt64)) (vj := vj') (la := la') (me := me') hF hT hA (RI_C r30 h3 hR)
    exact fin_K (wq_count F 0 _ 632 _) e (by omega) hA h1 e2 k1 k2 k3 k4 rfl
  · have e := (x_ntE1 (F := F) (tx := tx) (pg := pg) (le := le) (ln := ln) (tk := tk) (bd := bd) (vi := vi) (va := va) (vl := vl) (vj := vj) (la := la) (me := me) t0 t1 c).1
    have e2 := (m_tE (F := F) (tx := tx) (pg := pg) (le := le) (ln := ln) (tk := tk) (bd := bd) (vi := vi) (va := va) (vl := vl) (vj := vj) (la := la) (me := me) t0 t1 c).1
    exact fin_E (wq_count F 0 _ 632 _) e (by decide) rfl (by decide) (by omega) hA hC e2 (RI_thr r30 hR) (by rw [up_same]; rfl) frD_thr (fun _ _ => rfl)
theorem pcx_weight {n : Nat} {M : cM} (hF : 200000 ≤ F) (hn : n ≤ 600) (hI : INVn n M) (t w : Int32) : Agr F n (f_L_weight F 0 t w 632 M) (fun M => f_X12_weight F 570 t w M) (fun v => v.toInt64) := by
  obtain ⟨S, hS, D, nl, CM, SS, EL, RF, PN, Ls, SD, rn, RL, RC, AK, tx, pg, le, ln, tk, bd, vi, va, vl, vj, la, me, rfl, hA, hC, hR⟩ := hI
  have n8 := hA.1
  have r30 := hA.2.1
  have hlc := hC.2.2.1.1
  have hrc := hC.2.2.1.2.1
  have hml := hR.2.1.1
  have hmr := hR.2.1.2.1
  have hE : ∀ T, T < 3 → (EL T).length ≤ 4 := fun T hT => (hA.2.2.2.2.2.2.2 T hT).1
  have hnow : ∀ a, a < nl → txt (tx (aLine_now (eScript_lines a))) (nowT EL RL RC (CM a) (SS a)) := fun a ha => ((hC.2.2.2.1 a (by omega)).1 ha).2
  have hlrn : ∀ T, T < 3 → lrn (le (aTask_learnt (eScript_tasks T))) (pg (aLearnt_first (aTask_learnt (eScript_tasks T)))) (pg (aLearnt_second (aTask_learnt (eScript_tasks T)))) (Ls T) := fun T hT => (hC.2.2.2.2.1 T hT).2.2.2.2.2.1
  obtain ⟨t, rfl, t0, t1⟩ := I_ex t
  obtain ⟨w, rfl, w0, w1⟩ := I_ex w
  by_cases c : 0 ≤ t ∧ t < 3
  · obtain ⟨T, rfl⟩ : ∃ T : Nat, t = T := ⟨t.toNat, by omega⟩
    have hT : T < 3 := by omega
    obtain ⟨S', tx', pg', tk', bd', vi', va', vl', vj', la', me', e, h1, h2, h3⟩ := x_weightK (F := F) (w := w) hF hT w0 w1 (show S + 1 < 4000000000 by omega) hA hC
    by_cases c2 : 0 ≤ w ∧ w < (bstT (EL T) (PN T)).length
    · rw [if_pos c2, if_pos c2] at e
      obtain ⟨w2, rfl⟩ : ∃ w2 : Nat, w = w2 := ⟨w.toNat, by omega⟩
      rw [Int.toNat_natCast] at e
      obtain ⟨vi2, va2, vl2, e2, k1, k2, k3, k4⟩ := m_weightK (F := F) (T := T) (w := w2) (tx := tx') (pg := pg') (le := le) (ln := ln) (tk := tk') (bd := bd') (vi := vi') (va := va') (vl := up vl' 632 (vp_updL (vl' 632) 0 (I (wtP (gpf (bstT (EL T) (PN T)) w2) : Nat)).toInt64)) (vj := vj') (la := la') (me := me') hF hT (by omega) hA (RI_C r30 h3 hR)
      exact fin_K (wq_weight F 0 _ _ 632 _) e (by omega) hA h1 e2 k1 k2 k3 k4 rfl
    · rw [if_neg c2, if_neg c2] at e
      obtain ⟨vi2, va2, vl2, v, e2, k1, k2, k3, k4⟩ := m_weightE2 (F := F) (T := T) (w := w) (tx := tx') (pg := pg') (le := le) (ln := ln) (tk := tk') (bd := bd') (vi := vi') (va := va') (vl := vl') (vj := vj') (la := la') (me := me') hF hT w0 w1 c2 hA (RI_C r30 h3 hR)
      exact fin_E (wq_weight F 0 _ _ 632 _) e (by decide) rfl (by decide) (by omega) hA h1 e2 k1 k2 k3 k4
  · have e := (x_ntE1 (F := F) (tx := tx) (pg := pg) (le := le) (ln := ln) (tk := tk) (bd := bd) (vi := vi) (va := va) (vl := vl) (vj := vj) (la := la) (me := me) t0 t1 c).2.1 (I w)
    have e2 := (m_tE (F := F) (tx := tx) (pg := pg) (le := le) (ln := ln) (tk := tk) (bd := bd) (vi := vi) (va := va) (vl := vl) (vj := vj) (la := la) (me := me) t0 t1 c).2.1 (I w)
    exact fin_E (wq_weight F 0 _ _ 632 _) e (by decide) rfl (by decide) (by omega) hA hC e2 (RI_thr r30 hR) (by rw [up_same]; rfl) frD_thr (fun _ _ => rfl)
theorem pcx_question {n : Nat} {M : cM} (hF : 200000 ≤ F) (hn : n ≤ 600) (hI : INVn n M) (t : Int32) : Agr F n (f_L_question F 0 t 632 M) (fun M => f_X12_question F 570 t M) (fun v => v.toInt64) := by
  obtain ⟨S, hS, D, nl, CM, SS, EL, RF, PN, Ls, SD, rn, RL, RC, AK, tx, pg, le, ln, tk, bd, vi, va, vl, vj, la, me, rfl, hA, hC, hR⟩ := hI
  have n8 := hA.1
  have r30 := hA.2.1
  have hlc := hC.2.2.1.1
  have hrc := hC.2.2.1.2.1
  have hml := hR.2.1.1
  have hmr := hR.2.1.2.1
  have hE : ∀ T, T < 3 → (EL T).length ≤ 4 := fun T hT => (hA.2.2.2.2.2.2.2 T hT).1
  have hnow : ∀ a, a < nl → txt (tx (aLine_now (eScript_lines a))) (nowT EL RL RC (CM a) (SS a)) := fun a ha => ((hC.2.2.2.1 a (by omega)).1 ha).2
  have hlrn : ∀ T, T < 3 → lrn (le (aTask_learnt (eScript_tasks T))) (pg (aLearnt_first (aTask_learnt (eScript_tasks T)))) (pg (aLearnt_second (aTask_learnt (eScript_tasks T)))) (Ls T) := fun T hT => (hC.2.2.2.2.1 T hT).2.2.2.2.2.1
  obtain ⟨t, rfl, t0, t1⟩ := I_ex t
  by_cases c : 0 ≤ t ∧ t < 3
  · obtain ⟨T, rfl⟩ : ∃ T : Nat, t = T := ⟨t.toNat, by omega⟩
    have hT : T < 3 := by omega
    obtain ⟨S', tx', pg', tk', bd', vi', va', vl', vj', la', me', e, h1, h2, h3⟩ := x_questionK (F := F) hF hT (show S + 1 < 4000000000 by omega) hA hC
    obtain ⟨vi2, va2, vl2, e2, k1, k2, k3, k4⟩ := m_questionK (F := F) (T := T) (tx := tx') (pg := pg') (le := le) (ln := ln) (tk := tk') (bd := bd') (vi := vi') (va := va') (vl := up vl' 632 (vp_updL (vl' 632) 0 (I (qsT (qsF (EL T) (RF T) (bstT (EL T) (PN T)) (fun l => nowT EL RL RC (CM l) (SS l))) (List.range' 0 nl))).toInt64)) (vj := vj') (la := la') (me := me') hF hT hA (RI_C r30 h3 hR)
    exact fin_K (wq_question F 0 _ 632 _) e (by omega) hA h1 e2 k1 k2 k3 k4 rfl
  · have e := (x_ntE1 (F := F) (tx := tx) (pg := pg) (le := le) (ln := ln) (tk := tk) (bd := bd) (vi := vi) (va := va) (vl := vl) (vj := vj) (la := la) (me := me) t0 t1 c).2.2.1
    have e2 := (m_tE (F := F) (tx := tx) (pg := pg) (le := le) (ln := ln) (tk := tk) (bd := bd) (vi := vi) (va := va) (vl := vl) (vj := vj) (la := la) (me := me) t0 t1 c).2.2
    exact fin_E (wq_question F 0 _ 632 _) e (by decide) rfl (by decide) (by omega) hA hC e2 (RI_thr r30 hR) (by rw [up_same]; rfl) frD_thr (fun _ _ => rfl)
theorem pcx_learn {n : Nat} {M : cM} (hF : 200000 ≤ F) (hn : n ≤ 600) (hI : INVn n M) (t : Int32) : Agr F n (f_L_learn F 0 t 632 M) (fun M => f_X12_learn F 570 t M) (fun v => v.toInt64) := by
  obtain ⟨S, hS, D, nl, CM, SS, EL, RF, PN, Ls, SD, rn, RL, RC, AK, tx, pg, le, ln, tk, bd, vi, va, vl, vj, la, me, rfl, hA, hC, hR⟩ := hI
  have n8 := hA.1
  have r30 := hA.2.1
  have hlc := hC.2.2.1.1
  have hrc := hC.2.2.1.2.1
  have hml := hR.2.1.1
  have hmr := hR.2.1.2.1
  have hE : ∀ T, T < 3 → (EL T).length ≤ 4 := fun T hT => (hA.2.2.2.2.2.2.2 T hT).1
  have hnow : ∀ a, a < nl → txt (tx (aLine_now (eScript_lines a))) (nowT EL RL RC (CM a) (SS a)) := fun a ha => ((hC.2.2.2.1 a (by omega)).1 ha).2
  have hlrn : ∀ T, T < 3 → lrn (le (aTask_learnt (eScript_tasks T))) (pg (aLearnt_first (aTask_learnt (eScript_tasks T)))) (pg (aLearnt_second (aTask_learnt (eScript_tasks T)))) (Ls T) := fun T hT => (hC.2.2.2.2.1 T hT).2.2.2.2.2.1
  obtain ⟨t, rfl, t0, t1⟩ := I_ex t
  by_cases c : 0 ≤ t ∧ t < 3
  · obtain ⟨T, rfl⟩ : ∃ T : Nat, t = T := ⟨t.toNat, by omega⟩
    have hT : T < 3 := by omega
    by_cases h0 : (EL T).length = 0
    · have hex := (hC.2.2.2.2.1 T hT).1.1
      rw [h0] at hex
      have hmx := (hR.2.2.2.1 T hT).1.2.1
      rw [h0] at hmx
      have e := x_learnE2 (F := F) (tx := tx) (pg := pg) (le := le) (ln := ln) (tk := tk) (bd := bd) (vi := vi) (va := va) (vl := vl) (vj := vj) (la := la) (me := me) hT hex
      have e2 := m_learnE2 (F := F) (tx := tx) (pg := pg) (le := le) (ln := ln) (tk := tk) (bd := bd) (vi := vi) (va := va) (vl := vl) (vj := vj) (la := la) (me := me) hT hmx
      exact fin_E (wq_learn F 0 _ 632 _) e (by decide) rfl (by decide) (by omega) hA hC e2 (RI_thr r30 hR) (by rw [up_same]; rfl) frD_thr (fun _ _ => rfl)
    · obtain ⟨S', tx', pg', le', tk', bd', vi', va', vl', vj', la', me', e, h1, h2, h3⟩ := x_learnK (F := F) hF hT (show S + 43 < 4000000000 by omega) hA h0 hC
      obtain ⟨vi2, va2, vl2, e2, k1, k2, k3, k4⟩ := m_learnK (F := F) (T := T) (tx := tx') (pg := pg') (le := le') (ln := ln) (tk := tk') (bd := bd') (vi := vi') (va := va') (vl := up vl' 632 (vp_updL (vl' 632) 0 (I (lsN (lnL (PN T) (ety (EL T)) (RF T) (EL T).length))).toInt64)) (vj := vj') (la := la') (me := me') hF hT h0 hA (RI_C r30 h3 hR)
      exact fin_K (wq_learn F 0 _ 632 _) e (by omega) (AC_learn hA) h1 e2 k1 k2 k3 k4 rfl
  · have e := (x_ntE1 (F := F) (tx := tx) (pg := pg) (le := le) (ln := ln) (tk := tk) (bd := bd) (vi := vi) (va := va) (vl := vl) (vj := vj) (la := la) (me := me) t0 t1 c).2.2.2.1
    have e2 := m_learnE (F := F) (tx := tx) (pg := pg) (le := le) (ln := ln) (tk := tk) (bd := bd) (vi := vi) (va := va) (vl := vl) (vj := vj) (la := la) (me := me) t0 t1 c
    exact fin_E (wq_learn F 0 _ 632 _) e (by decide) rfl (by decide) (by omega) hA hC e2 (RI_thr r30 hR) (by rw [up_same]; rfl) frD_thr (fun _ _ => rfl)
end
