/-! THE ABSTRACT STATE, AND WHAT THE CLASS'S CELLS HOLD OF IT -/
def ety (E : List (Tx × Tx × Nat)) : Nat → Tx × Tx := fun i => ((gx E i).1, (gx E i).2.1)
def bstT (E : List (Tx × Tx × Nat)) (P : Nat → Option At) : List (List At) := if E.length = 0 then [] else best P (exL (ety E) E.length)
/-- what a step makes of a text: below 0 an example's, else a run's -/
def stpT (EL : Nat → List (Tx × Tx × Nat)) (RL : Nat → Le) (RC : Nat → Bool) (s : Tx) (k : Int) : Tx := if k < 0 then (gx (EL ((-1 - k).toNat / 4)) ((-1 - k).toNat % 4)).2.1 else if RC k.toNat = true then (mkL (RL k.toNat) s).getD s else s
def nowT (EL : Nat → List (Tx × Tx × Nat)) (RL : Nat → Le) (RC : Nat → Bool) (c : Tx) (S : List Int) : Tx := S.foldl (stpT EL RL RC) c
def cnE (EL : Nat → List (Tx × Tx × Nat)) (l : Nat) : Nat := (onL (EL 0) l).toNat + (onL (EL 1) l).toNat + (onL (EL 2) l).toNat
def okK (EL : Nat → List (Tx × Tx × Nat)) (rn : Nat) (k : Int) : Prop := 0 ≤ k ∧ k < rn ∨ k < 0 ∧ ∃ T e : Nat, T < 3 ∧ e < 4 ∧ e < (EL T).length ∧ k = -1 - ((4 * T + e : Nat) : Int)
/-- what holds of the abstract state alone -/
def AC (nl : Nat) (SS : Nat → List Int) (EL : Nat → List (Tx × Tx × Nat)) (Ls : Nat → Le) (SD : Nat → Bool) (rn : Nat) (RL : Nat → Le) (AK : Nat) : Prop := nl ≤ 8 ∧ rn ≤ 30 ∧ AK < 256 ∧ (∀ l, nl ≤ l → SS l = []) ∧ (∀ l, l < nl → (SS l).length ≤ rn + cnE EL l ∧ ∀ k, k ∈ SS l → okK EL rn k) ∧ (∀ r, r < rn → RL r ≠ none) ∧ (∀ T, T < 3 → SD T = true → Ls T ≠ none) ∧ ∀ T, T < 3 → (EL T).length ≤ 4 ∧ ∀ x, x ∈ EL T → x.2.2 < nl
def lnOK (tx : Nat → ZText) (ln : Nat → ZLine) (nl : Nat) (CM NW : Nat → Tx) (SS : Nat → List Int) : Prop := ∀ l, l < 8 → (l < nl → txt (tx (aLine_came (eScript_lines l))) (CM l) ∧ txt (tx (aLine_now (eScript_lines l))) (NW l)) ∧ (ln (eScript_lines l)).2 = I ((SS l).length : Nat) ∧ (SS l).length ≤ 33 ∧ ∀ i, i < (SS l).length → (ln (eScript_lines l)).1 i = I (fa (SS l) i)
def tkOK (tx : Nat → ZText) (pg : Nat → ZProg) (le : Nat → ZLearnt) (z : ZTask) (a : Nat) (E : List (Tx × Tx × Nat)) (R : List (Tx × Tx)) (P : Nat → Option At) (L : Le) (sd : Bool) : Prop := exs tx z a E ∧ rfs tx z a R ∧ (∀ k, k < 4 → z.2.2.2.1 k = I (pinI P k)) ∧ pnOk P ∧ z.2.2.2.2.1 = I ((sd.toNat : Nat) : Int) ∧ lrn (le (aTask_learnt a)) (pg (aLearnt_first (aTask_learnt a))) (pg (aLearnt_second (aTask_learnt a))) L ∧ (z.2.2.2.2.2.2 = I ((0 : Nat) : Int) ∨ z.2.2.2.2.2.2 = I ((1 : Nat) : Int) ∧ z.2.2.2.2.2.1 = I ((bstT E P).length : Nat) ∧ ∀ j, j < (bstT E P).length → prg (pg (eTask_best a j)) (gpf (bstT E P) j))
def rnOK (pg : Nat → ZProg) (le : Nat → ZLearnt) (rc : Nat → Int32) (rn : Nat) (RL : Nat → Le) (RC : Nat → Bool) : Prop := ∀ r, r < rn → lrn (le (eScript_ranBy r)) (pg (aLearnt_first (eScript_ranBy r))) (pg (aLearnt_second (eScript_ranBy r))) (RL r) ∧ rc r = I (((RC r).toNat : Nat) : Int)
def fiOK (tx : Nat → ZText) (bd : Nat → ZBoard) (vi : Nat → Int32) (vl : Nat → Nat → Int64) (vj : Int64) (la : Option Nat) (EL : Nat → List (Tx × Tx × Nat)) (S : Nat) : Prop := ∃ nb : Nat, vi 104 = I (nb : Nat) ∧ (∀ T, T < 3 → la = some (eScript_tasks T) → nb ≤ (EL T).length ∧ bOK tx bd (ety (EL T)) nb) ∧ bMade tx ∧ kOld vl S ∧ vj = Lg S
def meOK (tx : Nat → ZText) : Prop := (∃ u, txt (tx aScript_made) u) ∧ (∃ u, txt (tx aLearner_made) u) ∧ ∃ u, txt (tx aLearner_madeFirst) u
def viOK (vi : Nat → Int32) (nl rn AK : Nat) : Prop := vi 907 = I (nl : Nat) ∧ vi 908 = I (rn : Nat) ∧ vi 909 = I (AK : Nat)
def CIn (S : Nat) (D : Tx) (nl : Nat) (CM : Nat → Tx) (SS : Nat → List Int) (EL : Nat → List (Tx × Tx × Nat)) (RF : Nat → List (Tx × Tx)) (PN : Nat → Nat → Option At) (Ls : Nat → Le) (SD : Nat → Bool) (rn : Nat) (RL : Nat → Le) (RC : Nat → Bool) (AK : Nat) (tx : Nat → ZText) (pg : Nat → ZProg) (le : Nat → ZLearnt) (ln : Nat → ZLine) (tk : Nat → ZTask) (bd : Nat → ZBoard) (vi : Nat → Int32) (va : Nat → Nat → Int32) (vl : Nat → Nat → Int64) (vj : Int64) (la : Option Nat) (me : Nat → Option Nat) : Prop := txt (tx aScript_draft) D ∧ meOK tx ∧ viOK vi nl rn AK ∧ lnOK tx ln nl CM (fun l => nowT EL RL RC (CM l) (SS l)) SS ∧ (∀ T, T < 3 → tkOK tx pg le (tk (eScript_tasks T)) (eScript_tasks T) (EL T) (RF T) (PN T) (Ls T) (SD T)) ∧ rnOK pg le (va 437) rn RL RC ∧ fiOK tx bd vi vl vj la EL S
/-! frames -/
theorem lnOK_fr {tx tx' : Nat → ZText} {ln ln' : Nat → ZLine} {nl : Nat} {CM NW : Nat → Tx} {SS : Nat → List Int} (h : ∀ a, 222 ≤ a → a < 286 → tx' a = tx a) (h2 : ln' = ln) (g : lnOK tx ln nl CM NW SS) : lnOK tx' ln' nl CM NW SS := fun l hl => by
  obtain ⟨g1, g2⟩ := g l hl
  rw [h2]
  refine ⟨fun hn => ?_, g2⟩
  rw [h _ (by unfold aLine_came eScript_lines; omega) (by unfold aLine_came eScript_lines; omega), h _ (by unfold aLine_now eScript_lines; omega) (by unfold aLine_now eScript_lines; omega)]
  exact g1 hn
theorem tkOK_fr {tx tx' : Nat → ZText} {pg pg' : Nat → ZProg} {le le' : Nat → ZLearnt} {z : ZTask} {a : Nat} {E : List (Tx × Tx × Nat)} {R : List (Tx × Tx)} {P : Nat → Option At} {L : Le} {sd : Bool} (h1 : ∀ x, a ≤ x → x < a + 71 → tx' x = tx x) (h2 : ∀ x, a ≤ x → x < a + 71 → pg' x = pg x) (h3 : ∀ x, a ≤ x → x < a + 71 → le' x = le x) (g : tkOK tx pg le z a E R P L sd) : tkOK tx' pg' le' z a E R P L sd := by
  obtain ⟨⟨g1, g2, g3⟩, ⟨g4, g5, g6⟩, g7, g8, g9, g10, g11⟩ := g
  refine ⟨⟨g1, g2, fun i hi => ?_⟩, ⟨g4, g5, fun i hi => ?_⟩, g7, g8, g9, ?_, ?_⟩
  · rw [h1 _ (by unfold eTask_was; omega) (by unfold eTask_was; omega), h1 _ (by unfold eTask_shown; omega) (by unfold eTask_shown; omega)]
    exact g3 i hi
  · rw [h1 _ (by unfold eTask_refusedOf; omega) (by unfold eTask_refusedOf; omega), h1 _ (by unfold eTask_refused; omega) (by unfold eTask_refused; omega)]
    exact g6 i hi
  · rw [h3 _ (by unfold aTask_learnt; omega) (by unfold aTask_learnt; omega), h2 _ (by unfold aLearnt_first aTask_learnt; omega) (by unfold aLearnt_first aTask_learnt; omega), h2 _ (by unfold aLearnt_second aTask_learnt; omega) (by unfold aLearnt_second aTask_learnt; omega)]
    exact g10
  · rcases g11 with g11 | ⟨k1, k2, k3⟩
    · exact Or.inl g11
    · refine Or.inr ⟨k1, k2, fun j hj => ?_⟩
      have h5 : (bstT E P).length ≤ 5 := by
        unfold bstT
        split
        · decide
        · unfold best
          rw [List.length_map, List.length_take]
          omega
      rw [h2 _ (by unfold eTask_best; omega) (by unfold eTask_best; omega)]
      exact k3 j hj
theorem bstT_len {E : List (Tx × Tx × Nat)} {P : Nat → Option At} : (bstT E P).length ≤ 5 := by
  unfold bstT
  split
  · decide
  · unfold best
    rw [List.length_map, List.length_take]
    omega
theorem rnOK_fr {pg pg' : Nat → ZProg} {le le' : Nat → ZLearnt} {rc rc' : Nat → Int32} {rn : Nat} {RL : Nat → Le} {RC : Nat → Bool} (hr : rn ≤ 30) (h1 : ∀ x, 287 ≤ x → x < 437 → pg' x = pg x) (h2 : ∀ x, 287 ≤ x → x < 437 → le' x = le x) (h3 : rc' = rc) (g : rnOK pg le rc rn RL RC) : rnOK pg' le' rc' rn RL RC := fun r hr2 => by
  rw [h3, h2 _ (by unfold eScript_ranBy; omega) (by unfold eScript_ranBy; omega), h1 _ (by unfold aLearnt_first eScript_ranBy; omega) (by unfold aLearnt_first eScript_ranBy; omega), h1 _ (by unfold aLearnt_second eScript_ranBy; omega) (by unfold aLearnt_second eScript_ranBy; omega)]
  exact g r hr2
theorem brd_fr {tx tx' : Nat → ZText} {z : ZBoard} {a : Nat} {m : Tx × Tx} (h1 : tx' (aBoard_was a) = tx (aBoard_was a)) (h2 : tx' (aBoard_shown a) = tx (aBoard_shown a)) (h : brd tx z a m) : brd tx' z a m := ⟨by rw [h1]; exact h.1, by rw [h2]; exact h.2.1, h.2.2⟩
theorem fiOK_fr {tx tx' : Nat → ZText} {bd : Nat → ZBoard} {vi vi' : Nat → Int32} {vl vl' : Nat → Nat → Int64} {vj : Int64} {la : Option Nat} {EL : Nat → List (Tx × Tx × Nat)} {S : Nat} (hE : ∀ T, T < 3 → (EL T).length ≤ 4) (h1 : ∀ x, 440 ≤ x → x < 513 → tx' x = tx x) (h2 : vi' 104 = vi 104) (h3 : vl' 516 = vl 516) (g : fiOK tx bd vi vl vj la EL S) : fiOK tx' bd vi' vl' vj la EL S := by
  obtain ⟨nb, g1, g2, g3, g4, g5⟩ := g
  refine ⟨nb, by rw [h2]; exact g1, fun T hT hl => ?_, fun i hi => ?_, fun z hz => by rw [h3]; exact g4 z hz, g5⟩
  · obtain ⟨k1, k2⟩ := g2 T hT hl
    refine ⟨k1, fun i hi => ?_⟩
    have hE4 := hE T hT
    obtain ⟨m1, m2⟩ := k2 i hi
    exact ⟨brd_fr (h1 _ (by unfold aBoard_was eStock_boards; omega) (by unfold aBoard_was eStock_boards; omega)) (h1 _ (by unfold aBoard_shown eStock_boards; omega) (by unfold aBoard_shown eStock_boards; omega)) m1, m2⟩
  · obtain ⟨u, hu⟩ := g3 i hi
    refine ⟨u, ?_⟩
    rw [h1 _ (by unfold aBoard_made eStock_boards; omega) (by unfold aBoard_made eStock_boards; omega)]
    exact hu
/-- the reference's calls leave all of it -/
theorem CI_vi {S : Nat} {D : Tx} {nl : Nat} {CM : Nat → Tx} {SS : Nat → List Int} {EL : Nat → List (Tx × Tx × Nat)} {RF : Nat → List (Tx × Tx)} {PN : Nat → Nat → Option At} {Ls : Nat → Le} {SD : Nat → Bool} {rn : Nat} {RL : Nat → Le} {RC : Nat → Bool} {AK : Nat} {tx : Nat → ZText} {pg : Nat → ZProg} {le : Nat → ZLearnt} {ln : Nat → ZLine} {tk : Nat → ZTask} {bd : Nat → ZBoard} {vi : Nat → Int32} {va : Nat → Nat → Int32} {vl : Nat → Nat → Int64} {vj : Int64} {la : Option Nat} {me : Nat → Option Nat} {vi' : Nat → Int32} {va' : Nat → Nat → Int32} {vl' : Nat → Nat → Int64} (h1 : ∀ k, k < 1000 → vi' k = vi k) (h2 : ∀ K, K < 570 → va' K = va K) (h3 : ∀ K, K < 570 → vl' K = vl K) (g : CIn S D nl CM SS EL RF PN Ls SD rn RL RC AK tx pg le ln tk bd vi va vl vj la me) : CIn S D nl CM SS EL RF PN Ls SD rn RL RC AK tx pg le ln tk bd (vi') (va') (vl') vj la me := by
  obtain ⟨g1, g2, ⟨v1, v2, v3⟩, g4, g5, g6, nb, f1, f2, f3, f4, f5⟩ := g
  refine ⟨g1, g2, ⟨by rw [h1 _ (by decide)]; exact v1, by rw [h1 _ (by decide)]; exact v2, by rw [h1 _ (by decide)]; exact v3⟩, g4, g5, ?_, nb, by rw [h1 _ (by decide)]; exact f1, f2, f3, fun z hz => by rw [h3 _ (by decide)]; exact f4 z hz, f5⟩
  rw [h2 _ (by decide)]
  exact g6
theorem ety_app {E : List (Tx × Tx × Nat)} {x : Tx × Tx × Nat} {i : Nat} (h : i < E.length) : ety (E ++ [x]) i = ety E i := by
  unfold ety gx
  rw [List.getD_eq_getElem?_getD, List.getD_eq_getElem?_getD, List.getElem?_append_left h]
theorem gx_app {E : List (Tx × Tx × Nat)} {x : Tx × Tx × Nat} {i : Nat} (h : i < E.length) : gx (E ++ [x]) i = gx E i := by
  unfold gx
  rw [List.getD_eq_getElem?_getD, List.getD_eq_getElem?_getD, List.getElem?_append_left h]
theorem gx_app_eq {E : List (Tx × Tx × Nat)} {x : Tx × Tx × Nat} : gx (E ++ [x]) E.length = x := by
  unfold gx
  rw [List.getD_eq_getElem?_getD, List.getElem?_append_right (Nat.le_refl _), Nat.sub_self]
  rfl
theorem gx_mem {E : List (Tx × Tx × Nat)} {i : Nat} (h : i < E.length) : gx E i ∈ E := by
  unfold gx
  rw [List.getD_eq_getElem?_getD, List.getElem?_eq_getElem h]
  exact List.getElem_mem h
theorem fa_mem {s : List Int} {i : Nat} (h : i < s.length) : fa s i ∈ s := by
  rw [fa_get h]
  exact List.getElem_mem h
/-- a step that stands gives the same, if only the run lists have grown, or examples were added -/
theorem stpT_congr {EL EL' : Nat → List (Tx × Tx × Nat)} {RL RL' : Nat → Le} {RC RC' : Nat → Bool} {rn : Nat} {k : Int} (hk : okK EL rn k) (h1 : ∀ T e, T < 3 → e < (EL T).length → gx (EL' T) e = gx (EL T) e) (h2 : ∀ r, r < rn → RL' r = RL r ∧ RC' r = RC r) (s : Tx) : stpT EL' RL' RC' s k = stpT EL RL RC s k := by
  unfold stpT
  rcases hk with ⟨k1, k2⟩ | ⟨k1, T, e, k2, k3, k4, k5⟩
  · obtain ⟨a, b⟩ := h2 k.toNat (by omega)
    have hk0 : ¬ k < 0 := by omega
    rw [if_neg hk0, if_neg hk0, a, b]
  · rw [if_pos k1, if_pos k1, show (-1 - k).toNat / 4 = T by omega, show (-1 - k).toNat % 4 = e by omega, h1 T e k2 k4]
theorem nowT_congr {EL EL' : Nat → List (Tx × Tx × Nat)} {RL RL' : Nat → Le} {RC RC' : Nat → Bool} {rn : Nat} (h1 : ∀ T e, T < 3 → e < (EL T).length → gx (EL' T) e = gx (EL T) e) (h2 : ∀ r, r < rn → RL' r = RL r ∧ RC' r = RC r) : ∀ (S : List Int) (c : Tx), (∀ k, k ∈ S → okK EL rn k) → nowT EL' RL' RC' c S = nowT EL RL RC c S
  | [], _, _ => rfl
  | k :: S, c, hk => by
    unfold nowT
    rw [List.foldl_cons, List.foldl_cons, stpT_congr (hk k List.mem_cons_self) h1 h2]
    exact nowT_congr h1 h2 S _ (fun k' hk' => hk k' (List.mem_cons_of_mem _ hk'))
theorem nowT_app {EL : Nat → List (Tx × Tx × Nat)} {RL : Nat → Le} {RC : Nat → Bool} {c : Tx} {S : List Int} {k : Int} : nowT EL RL RC c (S ++ [k]) = stpT EL RL RC (nowT EL RL RC c S) k := by
  unfold nowT
  rw [List.foldl_append]
  rfl
theorem okK_mono {EL EL' : Nat → List (Tx × Tx × Nat)} {rn rn' : Nat} {k : Int} (h : okK EL rn k) (h1 : rn ≤ rn') (h2 : ∀ T, T < 3 → (EL T).length ≤ (EL' T).length) : okK EL' rn' k := by
  rcases h with ⟨a, b⟩ | ⟨a, T, e, b, c, d, x⟩
  · exact Or.inl ⟨a, by omega⟩
  · exact Or.inr ⟨a, T, e, b, c, Nat.lt_of_lt_of_le d (h2 T b), x⟩
theorem cnE_le {EL : Nat → List (Tx × Tx × Nat)} {l : Nat} : cnE EL l ≤ 3 := by
  unfold cnE
  have h : ∀ b : Bool, b.toNat ≤ 1 := fun b => by cases b <;> decide
  have h0 := h (onL (EL 0) l)
  have h1 := h (onL (EL 1) l)
  have h2 := h (onL (EL 2) l)
  omega
theorem n3_0 : ((3 : Nat) = 0) = False := eq_false (by decide)
theorem n2_0 : ((2 : Nat) = 0) = False := eq_false (by decide)
theorem n1_0 : ((1 : Nat) = 0) = False := eq_false (by decide)
theorem exs_ety {tx : Nat → ZText} {z : ZTask} {a : Nat} {E : List (Tx × Tx × Nat)} (h : exs tx z a E) : exOK tx a (ety E) E.length := fun i hi => ⟨(h.2.2 i hi).1, (h.2.2 i hi).2.1⟩
section
variable {F : Nat}
theorem x_nt {tx : Nat → ZText} {pg : Nat → ZProg} {le : Nat → ZLearnt} {ln : Nat → ZLine} {tk : Nat → ZTask} {bd : Nat → ZBoard} {vi : Nat → Int32} {va : Nat → Nat → Int32} {vl : Nat → Nat → Int64} {vj : Int64} {la : Option Nat} {me : Nat → Option Nat} {T : Nat} (hT : T < 3) : f_X11_needTask F aScript (I (T : Nat)) (mk (tx, pg, le, ln, tk, bd, vi, va, vl, vj, la, me)) = some (0, mk (tx, pg, le, ln, tk, bd, vi, va, vl, vj, la, me)) := by
  rw [x_needTask (F := F) (tx := tx) (pg := pg) (le := le) (ln := ln) (tk := tk) (bd := bd) (vi := vi) (va := va) (vl := vl) (vj := vj) (la := la) (me := me) (by omega) (by omega), if_pos (by omega)]
theorem x_ntE {tx : Nat → ZText} {pg : Nat → ZProg} {le : Nat → ZLearnt} {ln : Nat → ZLine} {tk : Nat → ZTask} {bd : Nat → ZBoard} {vi : Nat → Int32} {va : Nat → Nat → Int32} {vl : Nat → Nat → Int64} {vj : Int64} {la : Option Nat} {me : Nat → Option Nat} {t : Int} (h0 : -2147483648 ≤ t) (h1 : t < 2147483648) (h : ¬ (0 ≤ t ∧ t < 3)) : f_X11_needTask F aScript (I t) (mk (tx, pg, le, ln, tk, bd, vi, va, vl, vj, la, me)) = some (3, mk (tx, pg, le, ln, tk, bd, vi, va, vl, vj, la, me)) := by
  rw [x_needTask (F := F) (tx := tx) (pg := pg) (le := le) (ln := ln) (tk := tk) (bd := bd) (vi := vi) (va := va) (vl := vl) (vj := vj) (la := la) (me := me) h0 h1, if_neg h]
theorem x_nl {tx : Nat → ZText} {pg : Nat → ZProg} {le : Nat → ZLearnt} {ln : Nat → ZLine} {tk : Nat → ZTask} {bd : Nat → ZBoard} {vi : Nat → Int32} {va : Nat → Nat → Int32} {vl : Nat → Nat → Int64} {vj : Int64} {la : Option Nat} {me : Nat → Option Nat} {l n : Nat} (hn : vi 907 = I (n : Nat)) (n8 : n ≤ 8) (hl : l < n) : f_X11_needLine F aScript (I (l : Nat)) (mk (tx, pg, le, ln, tk, bd, vi, va, vl, vj, la, me)) = some (0, mk (tx, pg, le, ln, tk, bd, vi, va, vl, vj, la, me)) := by
  rw [x_needLine (F := F) (tx := tx) (pg := pg) (le := le) (ln := ln) (tk := tk) (bd := bd) (vi := vi) (va := va) (vl := vl) (vj := vj) (la := la) (me := me) (by omega) (by omega) hn (by omega) (by omega), if_pos (by omega)]
theorem x_nlE {tx : Nat → ZText} {pg : Nat → ZProg} {le : Nat → ZLearnt} {ln : Nat → ZLine} {tk : Nat → ZTask} {bd : Nat → ZBoard} {vi : Nat → Int32} {va : Nat → Nat → Int32} {vl : Nat → Nat → Int64} {vj : Int64} {la : Option Nat} {me : Nat → Option Nat} {l : Int} {n : Nat} (h0 : -2147483648 ≤ l) (h1 : l < 2147483648) (hn : vi 907 = I (n : Nat)) (n8 : n ≤ 8) (hl : ¬ (0 ≤ l ∧ l < n)) : f_X11_needLine F aScript (I l) (mk (tx, pg, le, ln, tk, bd, vi, va, vl, vj, la, me)) = some (3, mk (tx, pg, le, ln, tk, bd, vi, va, vl, vj, la, me)) := by
  rw [x_needLine (F := F) (tx := tx) (pg := pg) (le := le) (ln := ln) (tk := tk) (bd := bd) (vi := vi) (va := va) (vl := vl) (vj := vj) (la := la) (me := me) h0 h1 hn (by omega) (by omega), if_neg hl]
/-! lines -/
theorem x_begin {l : Nat} {tx : Nat → ZText} {pg : Nat → ZProg} {le : Nat → ZLearnt} {ln : Nat → ZLine} {tk : Nat → ZTask} {bd : Nat → ZBoard} {vi : Nat → Int32} {va : Nat → Nat → Int32} {vl : Nat → Nat → Int64} {vj : Int64} {la : Option Nat} {me : Nat → Option Nat} (hF : 200000 ≤ F) (hl : l < 8) {s : Tx} (hd : txt (tx aScript_draft) s) : ∃ v1 v2, f_X5_begin F (eScript_lines l) aScript_draft (mk (tx, pg, le, ln, tk, bd, vi, va, vl, vj, la, me)) = some (mk ((up (up tx (aLine_came (eScript_lines l)) v1) (aLine_now (eScript_lines l)) v2), pg, le, ln, tk, bd, vi, va, vl, vj, la, me)) ∧ txt v1 s ∧ txt v2 s := by
  obtain ⟨d1, d2, d3⟩ := ad_line (i := l)
  have hL : isLine (eScript_lines l) := is_eScript_lines hl
  obtain ⟨v1, hv1, e1⟩ := x_set (F := F) (tx := tx) (pg := pg) (le := le) (ln := ln) (tk := tk) (bd := bd) (vi := vi) (va := va) (vl := vl) (vj := vj) (la := la) (me := me) (is_Line_came hL) is_Script_draft (by omega) hd (by omega)
  have hd2 : txt (up tx (aLine_came (eScript_lines l)) v1 aScript_draft) s := by
    rw [up_ne (by omega)]
    exact hd
  obtain ⟨v2, hv2, e2⟩ := x_set (F := F) (tx := up tx (aLine_came (eScript_lines l)) v1) (pg := pg) (le := le) (ln := ln) (tk := tk) (bd := bd) (vi := vi) (va := va) (vl := vl) (vj := vj) (la := la) (me := me) (is_Line_now hL) is_Script_draft (by omega) hd2 (by omega)
  refine ⟨v1, v2, ?_, hv1, hv2⟩
  simp (disch := first | assumption | omega | exact is_Script_draft | exact is_Script_made | exact is_Learner_made | exact is_Learner_madeFirst | (apply is_eScript_tasks; omega) | (apply is_eScript_lines; omega) | (apply is_eScript_ranBy; omega)) only [↓reduceIte, ↓I_n1, obs, I_0n, l_1, l_2, l_3, l_4, l_5, l_6, l_7, l_8, l_11, l_12, l_15, l_16, l_18, l_20, l_21, l_29, l_30, l_31, l_32, l_33, l_39, l_40, l_44, l_45, l_46, l_47, l_48, l_53, l_57, l_63, l_64, l_65, l_66, l_71, l_72, l_75, l_90, l_97, l_120, l_122, l_127, l_128, l_1812, l_3600, l_4000, l_252645135, l_268435456, l_858993459, l_1431655765, I_add, I_mul, I_sub, I_addN, I_mulN, I_subN, ilt_t, ilt_f, ile_t, ile_f, ieq_t, ieq_f, up_same, up_up, I_and, I_or, I_shlN, I_shrN, I_divN, I_remN, dzI, i2cI, narI, Int.toNat_natCast, true_or, or_true, false_or, or_false, true_and, and_true, false_and, and_false, not_true_eq_false, not_false_eq_true, cLine, gLine_came, gLine_now, gLine_steps, nLine_steps, rLine_steps, wLine_steps, gLine_stepCount, pLine_stepCount, b_X5_begin_0, f_X5_begin_0, f_X5_begin, e1, e2]
theorem x_addStep {l b n : Nat} {tx : Nat → ZText} {pg : Nat → ZProg} {le : Nat → ZLearnt} {ln : Nat → ZLine} {tk : Nat → ZTask} {bd : Nat → ZBoard} {vi : Nat → Int32} {va : Nat → Nat → Int32} {vl : Nat → Nat → Int64} {vj : Int64} {la : Option Nat} {me : Nat → Option Nat} (hF : 200000 ≤ F) (hl : l < 8) (hb : isText b) (hbl : b < 222) {s : Tx} (hs : txt (tx b) s) (hn : (ln (eScript_lines l)).2 = I (n : Nat)) (hn2 : n < 33) {k : Int} : ∃ v, f_X5_addStep F (eScript_lines l) (I k) b (mk (tx, pg, le, ln, tk, bd, vi, va, vl, vj, la, me)) = some (mk ((up tx (aLine_now (eScript_lines l)) v), pg, le, (up ln (eScript_lines l) (upd (ln (eScript_lines l)).1 n (I k), I ((n + 1 : Nat) : Int))), tk, bd, vi, va, vl, vj, la, me)) ∧ txt v s := by
  obtain ⟨d1, d2, d3⟩ := ad_line (i := l)
  have hL : isLine (eScript_lines l) := is_eScript_lines hl
  obtain ⟨v, hv, e⟩ := x_set (F := F) (tx := tx) (pg := pg) (le := le) (ln := up ln (eScript_lines l) (upd (ln (eScript_lines l)).1 n (I k), I ((n + 1 : Nat) : Int))) (tk := tk) (bd := bd) (vi := vi) (va := va) (vl := vl) (vj := vj) (la := la) (me := me) (is_Line_now hL) hb (by omega) hs (by omega)
  refine ⟨v, ?_, hv⟩
  simp (disch := first | assumption | omega | exact is_Script_draft | exact is_Script_made | exact is_Learner_made | exact is_Learner_madeFirst | (apply is_eScript_tasks; omega) | (apply is_eScript_lines; omega) | (apply is_eScript_ranBy; omega)) only [↓reduceIte, ↓I_n1, obs, I_0n, l_1, l_2, l_3, l_4, l_5, l_6, l_7, l_8, l_11, l_12, l_15, l_16, l_18, l_20, l_21, l_29, l_30, l_31, l_32, l_33, l_39, l_40, l_44, l_45, l_46, l_47, l_48, l_53, l_57, l_63, l_64, l_65, l_66, l_71, l_72, l_75, l_90, l_97, l_120, l_122, l_127, l_128, l_1812, l_3600, l_4000, l_252645135, l_268435456, l_858993459, l_1431655765, I_add, I_mul, I_sub, I_addN, I_mulN, I_subN, ilt_t, ilt_f, ile_t, ile_f, ieq_t, ieq_f, up_same, up_up, I_and, I_or, I_shlN, I_shrN, I_divN, I_remN, dzI, i2cI, narI, Int.toNat_natCast, true_or, or_true, false_or, or_false, true_and, and_true, false_and, and_false, not_true_eq_false, not_false_eq_true, cLine, gLine_came, gLine_now, gLine_steps, nLine_steps, rLine_steps, wLine_steps, gLine_stepCount, pLine_stepCount, b_X5_addStep_0, f_X5_addStep_0, f_X5_addStep, hn, e]
theorem x_has2s {l : Nat} {tx : Nat → ZText} {pg : Nat → ZProg} {le : Nat → ZLearnt} {ln : Nat → ZLine} {tk : Nat → ZTask} {bd : Nat → ZBoard} {vi : Nat → Int32} {va : Nat → Nat → Int32} {vl : Nat → Nat → Int64} {vj : Int64} {la : Option Nat} {me : Nat → Option Nat} (hl : l < 8) {S : List Int} (hn : (ln (eScript_lines l)).2 = I (S.length : Nat)) (hn2 : S.length ≤ 33) (hs : ∀ i, i < S.length → (ln (eScript_lines l)).1 i = I (fa S i)) (hb : ∀ k, k ∈ S → -100 ≤ k ∧ k < 100) {r : Nat} (hr : r < 30) : ∀ (f i : Nat), i ≤ S.length → S.length - i < f → f_X5_hasStep_2 F f (eScript_lines l) (I (r : Nat)) (I (i : Nat)) (mk (tx, pg, le, ln, tk, bd, vi, va, vl, vj, la, me)) = some (I ((if ((r : Nat) : Int) ∈ S.drop i then 1 else 0 : Nat) : Int), mk (tx, pg, le, ln, tk, bd, vi, va, vl, vj, la, me)) := by
  have hL : isLine (eScript_lines l) := is_eScript_lines hl
  intro f
  induction f with
  | zero => intros; omega
  | succ f ih =>
    intro i hi hf
    rw [s_X5_hasStep_2]
    by_cases g : i < S.length
    · have hm := hb _ (fa_mem g)
      rw [drop_fa g]
      by_cases c : fa S i = (r : Int)
      · have hc := hs i g
        rw [c] at hc
        rw [if_pos (by rw [c]; exact List.mem_cons_self)]
        simp (disch := first | assumption | omega | exact is_Script_draft | exact is_Script_made | exact is_Learner_made | exact is_Learner_madeFirst | (apply is_eScript_tasks; omega) | (apply is_eScript_lines; omega) | (apply is_eScript_ranBy; omega)) only [↓reduceIte, ↓I_n1, obs, I_0n, l_1, l_2, l_3, l_4, l_5, l_6, l_7, l_8, l_11, l_12, l_15, l_16, l_18, l_20, l_21, l_29, l_30, l_31, l_32, l_33, l_39, l_40, l_44, l_45, l_46, l_47, l_48, l_53, l_57, l_63, l_64, l_65, l_66, l_71, l_72, l_75, l_90, l_97, l_120, l_122, l_127, l_128, l_1812, l_3600, l_4000, l_252645135, l_268435456, l_858993459, l_1431655765, I_add, I_mul, I_sub, I_addN, I_mulN, I_subN, ilt_t, ilt_f, ile_t, ile_f, ieq_t, ieq_f, up_same, up_up, I_and, I_or, I_shlN, I_shrN, I_divN, I_remN, dzI, i2cI, narI, Int.toNat_natCast, true_or, or_true, false_or, or_false, true_and, and_true, false_and, and_false, not_true_eq_false, not_false_eq_true, cLine, gLine_came, gLine_now, gLine_steps, nLine_steps, rLine_steps, wLine_steps, gLine_stepCount, pLine_stepCount, b_X5_hasStep_2, hn, hc]
      · have e' := ih (i + 1) (by omega) (by omega)
        have hc := hs i g
        have hh : (if (r : Int) ∈ fa S i :: S.drop (i + 1) then 1 else 0 : Nat) = if (r : Int) ∈ S.drop (i + 1) then 1 else 0 := by
          by_cases q : (r : Int) ∈ S.drop (i + 1)
          · rw [if_pos q, if_pos (List.mem_cons_of_mem _ q)]
          · rw [if_neg q, if_neg]
            intro q1
            rcases List.mem_cons.mp q1 with q1 | q1
            · exact c q1.symm
            · exact q q1
        rw [hh, ← e']
        simp (disch := first | assumption | omega | exact is_Script_draft | exact is_Script_made | exact is_Learner_made | exact is_Learner_madeFirst | (apply is_eScript_tasks; omega) | (apply is_eScript_lines; omega) | (apply is_eScript_ranBy; omega)) only [↓reduceIte, ↓I_n1, obs, I_0n, l_1, l_2, l_3, l_4, l_5, l_6, l_7, l_8, l_11, l_12, l_15, l_16, l_18, l_20, l_21, l_29, l_30, l_31, l_32, l_33, l_39, l_40, l_44, l_45, l_46, l_47, l_48, l_53, l_57, l_63, l_64, l_65, l_66, l_71, l_72, l_75, l_90, l_97, l_120, l_122, l_127, l_128, l_1812, l_3600, l_4000, l_252645135, l_268435456, l_858993459, l_1431655765, I_add, I_mul, I_sub, I_addN, I_mulN, I_subN, ilt_t, ilt_f, ile_t, ile_f, ieq_t, ieq_f, up_same, up_up, I_and, I_or, I_shlN, I_shrN, I_divN, I_remN, dzI, i2cI, narI, Int.toNat_natCast, true_or, or_true, false_or, or_false, true_and, and_true, false_and, and_false, not_true_eq_false, not_false_eq_true, cLine, gLine_came, gLine_now, gLine_steps, nLine_steps, rLine_steps, wLine_steps, gLine_stepCount, pLine_stepCount, b_X5_hasStep_2, hn, hc]
    · have : i = S.length := by omega
      subst this
      rw [List.drop_length, if_neg (List.not_mem_nil)]
      simp (disch := first | assumption | omega | exact is_Script_draft | exact is_Script_made | exact is_Learner_made | exact is_Learner_madeFirst | (apply is_eScript_tasks; omega) | (apply is_eScript_lines; omega) | (apply is_eScript_ranBy; omega)) only [↓reduceIte, ↓I_n1, obs, I_0n, l_1, l_2, l_3, l_4, l_5, l_6, l_7, l_8, l_11, l_12, l_15, l_16, l_18, l_20, l_21, l_29, l_30, l_31, l_32, l_33, l_39, l_40, l_44, l_45, l_46, l_47, l_48, l_53, l_57, l_63, l_64, l_65, l_66, l_71, l_72, l_75, l_90, l_97, l_120, l_122, l_127, l_128, l_1812, l_3600, l_4000, l_252645135, l_268435456, l_858993459, l_1431655765, I_add, I_mul, I_sub, I_addN, I_mulN, I_subN, ilt_t, ilt_f, ile_t, ile_f, ieq_t, ieq_f, up_same, up_up, I_and, I_or, I_shlN, I_shrN, I_divN, I_remN, dzI, i2cI, narI, Int.toNat_natCast, true_or, or_true, false_or, or_false, true_and, and_true, false_and, and_false, not_true_eq_false, not_false_eq_true, cLine, gLine_came, gLine_now, gLine_steps, nLine_steps, rLine_steps, wLine_steps, gLine_stepCount, pLine_stepCount, b_X5_hasStep_2, hn]
theorem x_hasStep {l : Nat} {tx : Nat → ZText} {pg : Nat → ZProg} {le : Nat → ZLearnt} {ln : Nat → ZLine} {tk : Nat → ZTask} {bd : Nat → ZBoard} {vi : Nat → Int32} {va : Nat → Nat → Int32} {vl : Nat → Nat → Int64} {vj : Int64} {la : Option Nat} {me : Nat → Option Nat} (hF : 200000 ≤ F) (hl : l < 8) {S : List Int} (hn : (ln (eScript_lines l)).2 = I (S.length : Nat)) (hn2 : S.length ≤ 33) (hs : ∀ i, i < S.length → (ln (eScript_lines l)).1 i = I (fa S i)) (hb : ∀ k, k ∈ S → -100 ≤ k ∧ k < 100) {r : Nat} (hr : r < 30) : f_X5_hasStep F (eScript_lines l) (I (r : Nat)) (mk (tx, pg, le, ln, tk, bd, vi, va, vl, vj, la, me)) = some (I ((if ((r : Nat) : Int) ∈ S then 1 else 0 : Nat) : Int), mk (tx, pg, le, ln, tk, bd, vi, va, vl, vj, la, me)) := by
  have hL : isLine (eScript_lines l) := is_eScript_lines hl
  have e := x_has2s (F := F) (tx := tx) (pg := pg) (le := le) (ln := ln) (tk := tk) (bd := bd) (vi := vi) (va := va) (vl := vl) (vj := vj) (la := la) (me := me) hl hn hn2 hs hb hr F 0 (Nat.zero_le _) (by omega)
  rw [List.drop_zero] at e
  rw [← e]
  simp (disch := first | assumption | omega | exact is_Script_draft | exact is_Script_made | exact is_Learner_made | exact is_Learner_madeFirst | (apply is_eScript_tasks; omega) | (apply is_eScript_lines; omega) | (apply is_eScript_ranBy; omega)) only [↓reduceIte, ↓I_n1, obs, I_0n, l_1, l_2, l_3, l_4, l_5, l_6, l_7, l_8, l_11, l_12, l_15, l_16, l_18, l_20, l_21, l_29, l_30, l_31, l_32, l_33, l_39, l_40, l_44, l_45, l_46, l_47, l_48, l_53, l_57, l_63, l_64, l_65, l_66, l_71, l_72, l_75, l_90, l_97, l_120, l_122, l_127, l_128, l_1812, l_3600, l_4000, l_252645135, l_268435456, l_858993459, l_1431655765, I_add, I_mul, I_sub, I_addN, I_mulN, I_subN, ilt_t, ilt_f, ile_t, ile_f, ieq_t, ieq_f, up_same, up_up, I_and, I_or, I_shlN, I_shrN, I_divN, I_remN, dzI, i2cI, narI, Int.toNat_natCast, true_or, or_true, false_or, or_false, true_and, and_true, false_and, and_false, not_true_eq_false, not_false_eq_true, cLine, gLine_came, gLine_now, gLine_steps, nLine_steps, rLine_steps, wLine_steps, gLine_stepCount, pLine_stepCount, b_X5_hasStep_2, b_X5_hasStep_0, f_X5_hasStep_0, f_X5_hasStep]
end
