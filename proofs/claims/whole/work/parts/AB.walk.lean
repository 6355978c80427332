/-! THE WALK -/
theorem stockOk_vi {tx : Nat → ZText} {bd : Nat → ZBoard} {vi vi' : Nat → Int32} {va : Nat → Nat → Int32} {me : Nat → Option Nat} {A : Nat → Nat} {ms : List (Tx × Tx)} (h1 : vi' 607 = vi 607) (h2 : vi' 611 = vi 611) (h3 : vi' 602 = vi 602) (hs : stockOk tx bd vi va me A ms) : stockOk tx bd vi' va me A ms := by
  unfold stockOk gst mems stk grp at *
  rw [h1, h2, h3]
  exact hs
theorem EI_gen {tx : Nat → ZText} {bd : Nat → ZBoard} {vi vi' : Nat → Int32} {va va' : Nat → Nat → Int32} {vl vl' : Nat → Nat → Int64} {vj : Int64} {me : Nat → Option Nat} {A : Nat → Nat} {P : Nat → Option At} {iP : Bool} {ms : List (Tx × Tx)} {S : Nat} (h0 : ∀ k, k ≠ 101 → vi' k = vi k) (h1 : ∀ K, K ≠ 518 → K ≠ 519 → va' K = va K) (h2 : frE vl vl') (h3 : mOK vl' iP P ms S) (h : EI tx bd vi va vl vj me A P iP ms S) : EI tx bd vi' va' vl' vj me A P iP ms S := by
  obtain ⟨e1, e2, e3, e4, e5, e6, e7, e8, e9⟩ := h
  have hw : vl' 515 = vl 515 := h2 _ (by decide) (by decide)
  refine ⟨stockOk_vi (h0 _ (by decide)) (h0 _ (by decide)) (h0 _ (by decide)) (stockOk_va (fun K a b => h1 K (by omega) (by omega)) e1), fun k hk => by rw [h1 _ (by decide) (by decide)]; exact e2 k hk, fun k hk => by rw [h1 _ (by decide) (by decide)]; exact e3 k hk, ⟨by rw [h0 _ (by decide)]; exact e4.1, e4.2⟩, e5, fun i hi y hy => by rw [hw]; exact e6 i hi y hy, fun s q a b r ps c d i hi => by rw [hw]; exact e7 s q a b r ps c d i hi, h3, e9⟩
/-- what a walk from a place on may change -/
def frw (q : Nat) (pg pg' : Nat → ZProg) (vi vi' : Nat → Int32) (va va' : Nat → Nat → Int32) (vl vl' : Nat → Nat → Int64) : Prop := (∀ a, (∀ i, i < 5 → a ≠ eFinder_found i) → pg' a = pg a) ∧ (∀ k, k ≠ 101 → vi' k = vi k) ∧ (∀ K, K ≠ 518 → K ≠ 519 → va' K = va K) ∧ (∀ x, x < (q + 1) * 4 → va' 518 x = va 518 x) ∧ (∀ j, j < q → va' 519 j = va 519 j) ∧ frE vl vl'
theorem frw_refl {q : Nat} {pg : Nat → ZProg} {vi : Nat → Int32} {va : Nat → Nat → Int32} {vl : Nat → Nat → Int64} : frw q pg pg vi vi va va vl vl := ⟨fun _ _ => rfl, fun _ _ => rfl, fun _ _ _ => rfl, fun _ _ => rfl, fun _ _ => rfl, frE_refl⟩
theorem frw_trans {q : Nat} {pg pg' pg'' : Nat → ZProg} {vi vi' vi'' : Nat → Int32} {va va' va'' : Nat → Nat → Int32} {vl vl' vl'' : Nat → Nat → Int64} (h : frw q pg pg' vi vi' va va' vl vl') (h' : frw q pg' pg'' vi' vi'' va' va'' vl' vl'') : frw q pg pg'' vi vi'' va va'' vl vl'' := ⟨fun a x => (h'.1 a x).trans (h.1 a x), fun a x => (h'.2.1 a x).trans (h.2.1 a x), fun a x y => (h'.2.2.1 a x y).trans (h.2.2.1 a x y), fun a x => (h'.2.2.2.1 a x).trans (h.2.2.2.1 a x), fun a x => (h'.2.2.2.2.1 a x).trans (h.2.2.2.2.1 a x), frE_trans h.2.2.2.2.2 h'.2.2.2.2.2⟩
theorem frw_le {q q' : Nat} {pg pg' : Nat → ZProg} {vi vi' : Nat → Int32} {va va' : Nat → Nat → Int32} {vl vl' : Nat → Nat → Int64} (hq : q ≤ q') (h : frw q' pg pg' vi vi' va va' vl vl') : frw q pg pg' vi vi' va va' vl vl' := ⟨h.1, h.2.1, h.2.2.1, fun x a => h.2.2.2.1 x (by omega), fun j a => h.2.2.2.2.1 j (by omega), h.2.2.2.2.2⟩
theorem frw_at {q : Nat} {pg : Nat → ZProg} {vi : Nat → Int32} {va va' : Nat → Nat → Int32} {vl vl' : Nat → Nat → Int64} (h : frat va va' q) (h' : frE vl vl') : frw q pg pg vi vi va va' vl vl' := ⟨fun _ _ => rfl, fun _ _ => rfl, fun K a _ => h.1 K a, h.2, fun j _ => by rw [h.1 _ (by decide)], h'⟩
theorem frw_row {q : Nat} {pg : Nat → ZProg} {vi : Nat → Int32} {va : Nat → Nat → Int32} {vl : Nat → Nat → Int64} {x : Int32} : frw q pg pg vi vi va (up va 519 (upd (va 519) q x)) vl vl := ⟨fun _ _ => rfl, fun _ _ => rfl, fun K _ b => up_ne b, fun y _ => by rw [up_ne (by decide)], fun j hj => by
  rw [up_same]
  unfold upd
  rw [if_neg (by omega)], frE_refl⟩
def roK (va : Nat → Nat → Int32) (pre : List At) : Prop := (∀ x, x ∈ pre → okA x) ∧ ∀ j, j < pre.length → va 519 j = I (enc (ga pre j) : Nat)
theorem roK_app {va va' : Nat → Nat → Int32} {pre : List At} {x : At} (hx : okA x) (h : roK va pre) (h1 : ∀ j, j < pre.length → va' 519 j = va 519 j) (h2 : va' 519 pre.length = I (enc x : Nat)) : roK va' (pre ++ [x]) := by
  refine ⟨fun y hy => ?_, fun j hj => ?_⟩
  · rcases List.mem_append.mp hy with h3 | h3
    · exact h.1 y h3
    · rw [List.mem_singleton.mp h3]
      exact hx
  · rw [ga_app hj]
    rw [List.length_append, List.length_singleton] at hj
    by_cases c : j < pre.length
    · rw [if_pos c, h1 j c]
      exact h.2 j c
    · have : j = pre.length := by omega
      subst this
      rw [if_neg c]
      exact h2
theorem roK_frw {q : Nat} {pg pg' : Nat → ZProg} {vi vi' : Nat → Int32} {va va' : Nat → Nat → Int32} {vl vl' : Nat → Nat → Int64} {pre : List At} (hq : pre.length ≤ q) (f : frw q pg pg' vi vi' va va' vl vl') (h : roK va pre) : roK va' pre := ⟨h.1, fun j hj => by
  rw [f.2.2.2.2.1 j (by omega)]
  exact h.2 j hj⟩
theorem atR_frw {pg pg' : Nat → ZProg} {vi vi' : Nat → Int32} {va va' : Nat → Nat → Int32} {vl vl' : Nat → Nat → Int64} {ms : List (Tx × Tx)} {k q : Nat} {ps : List Nat} (h4 : ms.length ≤ 4) (hk : q ≤ k) (f : frw k pg pg' vi vi' va va' vl vl') (h : atR va ms q ps) : atR va' ms q ps := fun i hi => by
  rw [f.2.2.2.1 _ (by omega)]
  exact h i hi
def WK (g : Nat → Int32 → Int32 → Int32 → cM → Option cM) (A : Nat → Nat) (P : Nat → Option At) (iP : Bool) (ms : List (Tx × Tx)) (S s q : Nat) : Prop := ∀ (tx : Nat → ZText) (pg : Nat → ZProg) (le : Nat → ZLearnt) (ln : Nat → ZLine) (tk : Nat → ZTask) (bd : Nat → ZBoard) (vi : Nat → Int32) (va : Nat → Nat → Int32) (vl : Nat → Nat → Int64) (vj : Int64) (la : Option Nat) (me : Nat → Option Nat) (ps : List Nat) (pre : List At) (fs : List (List At)) (r : Int), EI tx bd vi va vl vj me A P iP ms S → psOk ms ps → atR va ms q ps → pre.length = q → roK va pre → fnd pg vi fs → -64 ≤ r ∧ r ≤ 64 → ∃ pg' vi' va' vl', g aFinder (I (s : Nat)) (I (q : Nat)) (I r) (mk (tx, pg, le, ln, tk, bd, vi, va, vl, vj, la, me)) = some (mk (tx, (pg'), le, ln, tk, bd, (vi'), (va'), (vl'), vj, la, me)) ∧ frw q pg pg' vi vi' va va' vl vl' ∧ EI tx bd vi' va' vl' vj me A P iP ms S ∧ fnd pg' vi' ((fs ++ (comps P ms (s - q) q r ps).map (pre ++ ·)).take 5)
theorem map_pre {pre : List At} {x : At} {l : List (List At)} : (l.map (x :: ·)).map (pre ++ ·) = l.map ((pre ++ [x]) ++ ·) := by
  rw [List.map_map]
  congr 1
  funext y
  show pre ++ x :: y = (pre ++ [x]) ++ y
  rw [List.append_assoc]
  rfl
theorem flat_nil {α β : Type} {f : α → List β} : ∀ {l : List α}, (∀ a, a ∈ l → f a = []) → l.flatMap f = []
  | [], _ => rfl
  | a :: l, h => by
    rw [List.flatMap_cons, h a List.mem_cons_self, flat_nil (fun b hb => h b (List.mem_cons_of_mem _ hb))]
    rfl
theorem pin_eqA {P : Nat → Option At} {k : Nat} (hP : pnOk P) {n : Nat} (hn : n < 3672) : (pinI P k = -1 ∨ pinI P k = (n : Nat)) ↔ pinOk (P k) (.inr n) = true := by
  unfold pinI pinOk
  cases e : P k with
  | none => exact ⟨fun _ => rfl, fun _ => Or.inl rfl⟩
  | some b =>
    constructor
    · intro h
      have h : ((enc b : Nat) : Int) = -1 ∨ ((enc b : Nat) : Int) = (n : Nat) := h
      have h : enc b = enc (.inr n) := by
        rcases h with h | h
        · omega
        · exact Int.ofNat.inj h
      exact decide_eq_true (enc_inj (show okA (.inr n) from hn) (hP k b e) h.symm)
    · intro h
      have h := of_decide_eq_true h
      subst h
      exact Or.inr rfl
section
variable {F : Nat}
theorem x_wc6 {g : Nat → Int32 → Int32 → Int32 → cM → Option cM} {A : Nat → Nat} {P : Nat → Option At} {iP : Bool} {ms : List (Tx × Tx)} {S s q : Nat} (hF : 200000 ≤ F) (hs : s ≤ 4) (hq : q < s) (hg : WK g A P iP ms S s (q + 1)) {ps : List Nat} (hp : psOk ms ps) {pre : List At} (hpl : pre.length = q) {r : Int} (hr : 4 ≤ r ∧ r ≤ 64) : ∀ (f n : Nat) (fs : List (List At)) (tx : Nat → ZText) (pg : Nat → ZProg) (le : Nat → ZLearnt) (ln : Nat → ZLine) (tk : Nat → ZTask) (bd : Nat → ZBoard) (vi : Nat → Int32) (va : Nat → Nat → Int32) (vl : Nat → Nat → Int64) (vj : Int64) (la : Option Nat) (me : Nat → Option Nat), n ≤ 4 → 5 - n < f → EI tx bd vi va vl vj me A P iP ms S → atR va ms q ps → roK va pre → fnd pg vi fs → cpre ms ps n → ∃ pg' vi' va' vl', f_X2_walkConsts_6 F g f aFinder (I (s : Nat)) (I (q : Nat)) (I r) (I (cst0 (cl0 ms ps n) : Nat)) (I ((n + 1 : Nat) : Int)) (mk (tx, pg, le, ln, tk, bd, vi, va, vl, vj, la, me)) = some (mk (tx, (pg'), le, ln, tk, bd, (vi'), (va'), (vl'), vj, la, me)) ∧ frw q pg pg' vi vi' va va' vl vl' ∧ EI tx bd vi' va' vl' vj me A P iP ms S ∧ fnd pg' vi' ((fs ++ ((List.range' (n + 1) (4 - n)).flatMap (cC P ms (s - (q + 1)) q r ps)).map (pre ++ ·)).take 5) := by
  intro f
  induction f with
  | zero => intros; omega
  | succ f ih =>
    intro n fs tx pg le ln tk bd vi va vl vj la me hn hf hE hat hro hfd hc
    obtain ⟨e1, e2, e3, e4, e5, e6, e7, e8, e9⟩ := id hE
    obtain ⟨m1, m2, m3, m4, m5⟩ := id e1.1.1
    obtain ⟨d1, d2, d3⟩ := id hfd
    rw [s_X2_walkConsts_6]
    by_cases c4 : n < 4
    · by_cases c5 : 5 ≤ fs.length
      · refine ⟨pg, vi, va, vl, ?_, frw_refl, hE, ?_⟩
        · simp (disch := first | assumption | omega | exact is_Script_draft | exact is_Script_made | exact is_Learner_made | exact is_Learner_madeFirst | (apply is_eScript_tasks; omega) | (apply is_eScript_lines; omega) | (apply is_eScript_ranBy; omega)) only [↓reduceIte, ↓I_n1, obs, I_0n, l_1, l_2, l_3, l_4, l_5, l_6, l_7, l_8, l_11, l_12, l_15, l_16, l_18, l_20, l_21, l_29, l_30, l_31, l_32, l_33, l_39, l_40, l_44, l_45, l_46, l_47, l_48, l_53, l_57, l_63, l_64, l_65, l_66, l_71, l_72, l_75, l_90, l_97, l_120, l_122, l_127, l_128, l_1812, l_3600, l_4000, l_252645135, l_268435456, l_858993459, l_1431655765, I_add, I_mul, I_sub, I_addN, I_mulN, I_subN, ilt_t, ilt_f, ile_t, ile_f, ieq_t, ieq_f, up_same, up_up, I_and, I_or, I_shlN, I_shrN, I_divN, I_remN, dzI, i2cI, narI, Int.toNat_natCast, true_or, or_true, false_or, or_false, true_and, and_true, false_and, and_false, not_true_eq_false, not_false_eq_true, cFinder, gFinder_found, nFinder_found, rFinder_found, gFinder_foundCount, pFinder_foundCount, gFinder_stock, gFinder_lookedAt, pFinder_lookedAt, gFinder_boardCount, pFinder_boardCount, gFinder_pins, nFinder_pins, rFinder_pins, wFinder_pins, gFinder_pinIndexes, nFinder_pinIndexes, rFinder_pinIndexes, wFinder_pinIndexes, gFinder_isPinned, pFinder_isPinned, gFinder_ways, nFinder_ways, rFinder_ways, wFinder_ways, gFinder_knownKeys, nFinder_knownKeys, rFinder_knownKeys, wFinder_knownKeys, gFinder_knownEndings, nFinder_knownEndings, rFinder_knownEndings, wFinder_knownEndings, gFinder_searches, pFinder_searches, gFinder_at_, nFinder_at_, rFinder_at_, wFinder_at_, gFinder_row, nFinder_row, rFinder_row, wFinder_row, b_X2_walkConsts_6, d1]
        · rw [tk_full c5 d2]
          exact hfd
      obtain ⟨va1, sg, h1, f1, hcase⟩ := x_stepOverSign (F := F) (k := q) (n := n) (tx := tx) (pg := pg) (le := le) (ln := ln) (tk := tk) (bd := bd) (vi := vi) (va := va) (vl := vl) (vj := vj) (la := la) (me := me) hF (by omega) c4 hp e1.1.1 hat hc
      have hEv := EI_at f1 hE
      rcases hcase with ⟨c1, c2, c3, c6, c7⟩ | ⟨c1, c2⟩
      · have hsb := okS_bd c3
        obtain ⟨q1, q2⟩ := (cpre_succ m2).mp c1
        have hlt := (q2 0 (by omega)).1
        obtain ⟨o1, o2⟩ := cl0_ok (ps := ps) (n := n) m4 m2 (by omega)
        obtain ⟨o3, o4⟩ := cl0_ok (ps := ps) (n := n + 1) m4 m2 (by omega)
        have hw := x_withSign (F := F) (M := mk (tx, pg, le, ln, tk, bd, vi, (va1), vl, vj, la, me)) (l := cl0 ms ps n) (s := sg) (by omega) o1 c3
        have hcs := cl0_succ hlt
        rw [c2] at hw
        rw [hcs, o2, ← c2] at hw
        have hne : cl0 ms ps (n + 1) ≠ [] := by
          intro z
          rw [z] at o4
          cases o4
        have hoka : okA (.inl (cl0 ms ps (n + 1))) := ⟨hne, by omega, o3⟩
        have hcb := cst_bd hne (by omega) o3
        have hc0 := cst0_of hne
        have hpin := e2 q (by omega)
        have hpin1 : va1 513 q = I (pinI P q) := by rw [f1.1 _ (by decide)]; exact hpin
        have hpb := pinI_bd e5 (k := q)
        have hsub : n + 1 - 1 = n := by omega
        have hpe := pin_eq (k := q) e5 hne (by omega) o3
        have hrg : List.range' (n + 1) (4 - n) = (n + 1) :: List.range' (n + 1 + 1) (4 - (n + 1)) := by
          rw [show 4 - n = (4 - (n + 1)) + 1 by omega, List.range'_succ]
        by_cases d : pinI P q = -1 ∨ pinI P q = (cst (cl0 ms ps (n + 1)) : Nat)
        · have hwb := wt_bd hoka
          obtain ⟨va2, hva2⟩ : ∃ va2, va2 = up va1 519 (upd (va1 519) q (I (cst (cl0 ms ps (n + 1)) : Nat))) := ⟨_, rfl⟩
          have hwt : wt (.inl (cl0 ms ps (n + 1))) = 3 * (n + 1) + 4 := by
            show 4 + 3 * (cl0 ms ps (n + 1)).length = _
            omega
          have hwo : f_X0_weightOfConst F (I ((n + 1 : Nat) : Int)) (mk (tx, pg, le, ln, tk, bd, vi, (va2), vl, vj, la, me)) = some (I (wt (.inl (cl0 ms ps (n + 1))) : Nat), mk (tx, pg, le, ln, tk, bd, vi, (va2), vl, vj, la, me)) := by
            rw [hwt]
            exact x_weightOfConst
          have fr2 : frw q pg pg vi vi va1 va2 vl vl := by rw [hva2]; exact frw_row
          have fr1 : frw q pg pg vi vi va va1 vl vl := frw_at f1 frE_refl
          have hE2 : EI tx bd vi va2 vl vj me A P iP ms S := EI_gen (fun _ _ => rfl) fr2.2.2.1 frE_refl e8 hEv
          have hat2 : atR va2 ms (q + 1) (psadd ms ps (n + 1)) := fun i hi => by
            rw [hva2, up_ne (by decide)]
            exact c7 i hi
          have hro2 : roK va2 (pre ++ [.inl (cl0 ms ps (n + 1))]) := roK_app hoka (roK_frw (by omega) fr1 hro) (fun j hj => fr2.2.2.2.2.1 j (by omega)) (by
            rw [hva2, up_same, hpl]
            unfold upd
            rw [if_pos rfl]
            rfl)
          obtain ⟨pg3, vi3, va3, vl3, g1, g2, g3, g4⟩ := hg tx pg le ln tk bd vi va2 vl vj la me (psadd ms ps (n + 1)) (pre ++ [.inl (cl0 ms ps (n + 1))]) fs (r - wt (.inl (cl0 ms ps (n + 1)))) hE2 c6 hat2 (by rw [List.length_append, List.length_singleton, hpl]) hro2 hfd (by omega)
          have fr3 : frw q pg pg3 vi vi3 va va3 vl vl3 := frw_trans fr1 (frw_trans fr2 (frw_le (Nat.le_succ _) g2))
          obtain ⟨pg4, vi4, va4, vl4, i1, i2, i3, i4⟩ := ih (n + 1) _ tx (pg3) le ln tk bd (vi3) (va3) (vl3) vj la me (by omega) (by omega) g3 (atR_frw m3 (Nat.le_refl _) fr3 hat) (roK_frw (by omega) fr3 hro) g4 c1
          rw [hc0] at i1
          refine ⟨pg4, vi4, va4, vl4, ?_, frw_trans fr3 i2, i3, ?_⟩
          · rw [← i1]
            rcases d with d | d
            · rw [d] at hpin1
              simp (disch := first | assumption | omega | exact is_Script_draft | exact is_Script_made | exact is_Learner_made | exact is_Learner_madeFirst | (apply is_eScript_tasks; omega) | (apply is_eScript_lines; omega) | (apply is_eScript_ranBy; omega)) only [↓reduceIte, ↓I_n1, obs, I_0n, l_1, l_2, l_3, l_4, l_5, l_6, l_7, l_8, l_11, l_12, l_15, l_16, l_18, l_20, l_21, l_29, l_30, l_31, l_32, l_33, l_39, l_40, l_44, l_45, l_46, l_47, l_48, l_53, l_57, l_63, l_64, l_65, l_66, l_71, l_72, l_75, l_90, l_97, l_120, l_122, l_127, l_128, l_1812, l_3600, l_4000, l_252645135, l_268435456, l_858993459, l_1431655765, I_add, I_mul, I_sub, I_addN, I_mulN, I_subN, ilt_t, ilt_f, ile_t, ile_f, ieq_t, ieq_f, up_same, up_up, I_and, I_or, I_shlN, I_shrN, I_divN, I_remN, dzI, i2cI, narI, Int.toNat_natCast, true_or, or_true, false_or, or_false, true_and, and_true, false_and, and_false, not_true_eq_false, not_false_eq_true, cFinder, gFinder_found, nFinder_found, rFinder_found, gFinder_foundCount, pFinder_foundCount, gFinder_stock, gFinder_lookedAt, pFinder_lookedAt, gFinder_boardCount, pFinder_boardCount, gFinder_pins, nFinder_pins, rFinder_pins, wFinder_pins, gFinder_pinIndexes, nFinder_pinIndexes, rFinder_pinIndexes, wFinder_pinIndexes, gFinder_isPinned, pFinder_isPinned, gFinder_ways, nFinder_ways, rFinder_ways, wFinder_ways, gFinder_knownKeys, nFinder_knownKeys, rFinder_knownKeys, wFinder_knownKeys, gFinder_knownEndings, nFinder_knownEndings, rFinder_knownEndings, wFinder_knownEndings, gFinder_searches, pFinder_searches, gFinder_at_, nFinder_at_, rFinder_at_, wFinder_at_, gFinder_row, nFinder_row, rFinder_row, wFinder_row, b_X2_walkConsts_6, f_X2_walkConsts_69, b_X2_walkConsts_69, d1, h1, hsub, hw, hpin1]
              rw [← hva2]
              simp (disch := first | assumption | omega | exact is_Script_draft | exact is_Script_made | exact is_Learner_made | exact is_Learner_madeFirst | (apply is_eScript_tasks; omega) | (apply is_eScript_lines; omega) | (apply is_eScript_ranBy; omega)) only [↓reduceIte, ↓I_n1, obs, I_0n, l_1, l_2, l_3, l_4, l_5, l_6, l_7, l_8, l_11, l_12, l_15, l_16, l_18, l_20, l_21, l_29, l_30, l_31, l_32, l_33, l_39, l_40, l_44, l_45, l_46, l_47, l_48, l_53, l_57, l_63, l_64, l_65, l_66, l_71, l_72, l_75, l_90, l_97, l_120, l_122, l_127, l_128, l_1812, l_3600, l_4000, l_252645135, l_268435456, l_858993459, l_1431655765, I_add, I_mul, I_sub, I_addN, I_mulN, I_subN, ilt_t, ilt_f, ile_t, ile_f, ieq_t, ieq_f, up_same, up_up, I_and, I_or, I_shlN, I_shrN, I_divN, I_remN, dzI, i2cI, narI, Int.toNat_natCast, true_or, or_true, false_or, or_false, true_and, and_true, false_and, and_false, not_true_eq_false, not_false_eq_true, cFinder, gFinder_found, nFinder_found, rFinder_found, gFinder_foundCount, pFinder_foundCount, gFinder_stock, gFinder_lookedAt, pFinder_lookedAt, gFinder_boardCount, pFinder_boardCount, gFinder_pins, nFinder_pins, rFinder_pins, wFinder_pins, gFinder_pinIndexes, nFinder_pinIndexes, rFinder_pinIndexes, wFinder_pinIndexes, gFinder_isPinned, pFinder_isPinned, gFinder_ways, nFinder_ways, rFinder_ways, wFinder_ways, gFinder_knownKeys, nFinder_knownKeys, rFinder_knownKeys, wFinder_knownKeys, gFinder_knownEndings, nFinder_knownEndings, rFinder_knownEndings, wFinder_knownEndings, gFinder_searches, pFinder_searches, gFinder_at_, nFinder_at_, rFinder_at_, wFinder_at_, gFinder_row, nFinder_row, rFinder_row, wFinder_row, hwo, g1]
            · rw [d] at hpin1
              simp (disch := first | assumption | omega | exact is_Script_draft | exact is_Script_made | exact is_Learner_made | exact is_Learner_madeFirst | (apply is_eScript_tasks; omega) | (apply is_eScript_lines; omega) | (apply is_eScript_ranBy; omega)) only [↓reduceIte, ↓I_n1, obs, I_0n, l_1, l_2, l_3, l_4, l_5, l_6, l_7, l_8, l_11, l_12, l_15, l_16, l_18, l_20, l_21, l_29, l_30, l_31, l_32, l_33, l_39, l_40, l_44, l_45, l_46, l_47, l_48, l_53, l_57, l_63, l_64, l_65, l_66, l_71, l_72, l_75, l_90, l_97, l_120, l_122, l_127, l_128, l_1812, l_3600, l_4000, l_252645135, l_268435456, l_858993459, l_1431655765, I_add, I_mul, I_sub, I_addN, I_mulN, I_subN, ilt_t, ilt_f, ile_t, ile_f, ieq_t, ieq_f, up_same, up_up, I_and, I_or, I_shlN, I_shrN, I_divN, I_remN, dzI, i2cI, narI, Int.toNat_natCast, true_or, or_true, false_or, or_false, true_and, and_true, false_and, and_false, not_true_eq_false, not_false_eq_true, cFinder, gFinder_found, nFinder_found, rFinder_found, gFinder_foundCount, pFinder_foundCount, gFinder_stock, gFinder_lookedAt, pFinder_lookedAt, gFinder_boardCount, pFinder_boardCount, gFinder_pins, nFinder_pins, rFinder_pins, wFinder_pins, gFinder_pinIndexes, nFinder_pinIndexes, rFinder_pinIndexes, wFinder_pinIndexes, gFinder_isPinned, pFinder_isPinned, gFinder_ways, nFinder_ways, rFinder_ways, wFinder_ways, gFinder_knownKeys, nFinder_knownKeys, rFinder_knownKeys, wFinder_knownKeys, gFinder_knownEndings, nFinder_knownEndings, rFinder_knownEndings, wFinder_knownEndings, gFinder_searches, pFinder_searches, gFinder_at_, nFinder_at_, rFinder_at_, wFinder_at_, gFinder_row, nFinder_row, rFinder_row, wFinder_row, b_X2_walkConsts_6, f_X2_walkConsts_69, b_X2_walkConsts_69, d1, h1, hsub, hw, hpin1]
              rw [← hva2]
              simp (disch := first | assumption | omega | exact is_Script_draft | exact is_Script_made | exact is_Learner_made | exact is_Learner_madeFirst | (apply is_eScript_tasks; omega) | (apply is_eScript_lines; omega) | (apply is_eScript_ranBy; omega)) only [↓reduceIte, ↓I_n1, obs, I_0n, l_1, l_2, l_3, l_4, l_5, l_6, l_7, l_8, l_11, l_12, l_15, l_16, l_18, l_20, l_21, l_29, l_30, l_31, l_32, l_33, l_39, l_40, l_44, l_45, l_46, l_47, l_48, l_53, l_57, l_63, l_64, l_65, l_66, l_71, l_72, l_75, l_90, l_97, l_120, l_122, l_127, l_128, l_1812, l_3600, l_4000, l_252645135, l_268435456, l_858993459, l_1431655765, I_add, I_mul, I_sub, I_addN, I_mulN, I_subN, ilt_t, ilt_f, ile_t, ile_f, ieq_t, ieq_f, up_same, up_up, I_and, I_or, I_shlN, I_shrN, I_divN, I_remN, dzI, i2cI, narI, Int.toNat_natCast, true_or, or_true, false_or, or_false, true_and, and_true, false_and, and_false, not_true_eq_false, not_false_eq_true, cFinder, gFinder_found, nFinder_found, rFinder_found, gFinder_foundCount, pFinder_foundCount, gFinder_stock, gFinder_lookedAt, pFinder_lookedAt, gFinder_boardCount, pFinder_boardCount, gFinder_pins, nFinder_pins, rFinder_pins, wFinder_pins, gFinder_pinIndexes, nFinder_pinIndexes, rFinder_pinIndexes, wFinder_pinIndexes, gFinder_isPinned, pFinder_isPinned, gFinder_ways, nFinder_ways, rFinder_ways, wFinder_ways, gFinder_knownKeys, nFinder_knownKeys, rFinder_knownKeys, wFinder_knownKeys, gFinder_knownEndings, nFinder_knownEndings, rFinder_knownEndings, wFinder_knownEndings, gFinder_searches, pFinder_searches, gFinder_at_, nFinder_at_, rFinder_at_, wFinder_at_, gFinder_row, nFinder_row, rFinder_row, wFinder_row, hwo, g1]
          · rw [tk_tk] at i4
            rw [hrg, List.flatMap_cons, List.map_append]
            have hcc : cC P ms (s - (q + 1)) q r ps (n + 1) = (comps P ms (s - (q + 1)) (q + 1) (r - wt (.inl (cl0 ms ps (n + 1)))) (psadd ms ps (n + 1))).map (.inl (cl0 ms ps (n + 1)) :: ·) := if_pos ⟨cpreB_iff.mpr c1, hpe.mp d⟩
            rw [hcc, map_pre]
            exact i4
        · obtain ⟨pg4, vi4, va4, vl4, i1, i2, i3, i4⟩ := ih (n + 1) fs tx pg le ln tk bd vi (va1) vl vj la me (by omega) (by omega) hEv (atR_frat m3 (Nat.le_refl _) f1 hat) (roK_frw (q := q) (by omega) (frw_at (pg := pg) (vi := vi) f1 (frE_refl (vl := vl))) hro) hfd c1
          rw [hc0] at i1
          have x1 : pinI P q ≠ -1 := fun z => d (Or.inl z)
          have x2 : pinI P q ≠ (cst (cl0 ms ps (n + 1)) : Nat) := fun z => d (Or.inr z)
          refine ⟨pg4, vi4, va4, vl4, ?_, frw_trans (frw_at f1 frE_refl) i2, i3, ?_⟩
          · rw [← i1]
            simp (disch := first | assumption | omega | exact is_Script_draft | exact is_Script_made | exact is_Learner_made | exact is_Learner_madeFirst | (apply is_eScript_tasks; omega) | (apply is_eScript_lines; omega) | (apply is_eScript_ranBy; omega)) only [↓reduceIte, ↓I_n1, obs, I_0n, l_1, l_2, l_3, l_4, l_5, l_6, l_7, l_8, l_11, l_12, l_15, l_16, l_18, l_20, l_21, l_29, l_30, l_31, l_32, l_33, l_39, l_40, l_44, l_45, l_46, l_47, l_48, l_53, l_57, l_63, l_64, l_65, l_66, l_71, l_72, l_75, l_90, l_97, l_120, l_122, l_127, l_128, l_1812, l_3600, l_4000, l_252645135, l_268435456, l_858993459, l_1431655765, I_add, I_mul, I_sub, I_addN, I_mulN, I_subN, ilt_t, ilt_f, ile_t, ile_f, ieq_t, ieq_f, up_same, up_up, I_and, I_or, I_shlN, I_shrN, I_divN, I_remN, dzI, i2cI, narI, Int.toNat_natCast, true_or, or_true, false_or, or_false, true_and, and_true, false_and, and_false, not_true_eq_false, not_false_eq_true, cFinder, gFinder_found, nFinder_found, rFinder_found, gFinder_foundCount, pFinder_foundCount, gFinder_stock, gFinder_lookedAt, pFinder_lookedAt, gFinder_boardCount, pFinder_boardCount, gFinder_pins, nFinder_pins, rFinder_pins, wFinder_pins, gFinder_pinIndexes, nFinder_pinIndexes, rFinder_pinIndexes, wFinder_pinIndexes, gFinder_isPinned, pFinder_isPinned, gFinder_ways, nFinder_ways, rFinder_ways, wFinder_ways, gFinder_knownKeys, nFinder_knownKeys, rFinder_knownKeys, wFinder_knownKeys, gFinder_knownEndings, nFinder_knownEndings, rFinder_knownEndings, wFinder_knownEndings, gFinder_searches, pFinder_searches, gFinder_at_, nFinder_at_, rFinder_at_, wFinder_at_, gFinder_row, nFinder_row, rFinder_row, wFinder_row, b_X2_walkConsts_6, d1, h1, hsub, hw, hpin1]
          · have hcc : cC P ms (s - (q + 1)) q r ps (n + 1) = [] := if_neg (fun z => d (hpe.mpr z.2))
            rw [hrg, List.flatMap_cons, hcc]
            exact i4
      · refine ⟨pg, vi, va1, vl, ?_, frw_at f1 frE_refl, hEv, ?_⟩
        · rw [c2] at h1
          simp (disch := first | assumption | omega | exact is_Script_draft | exact is_Script_made | exact is_Learner_made | exact is_Learner_madeFirst | (apply is_eScript_tasks; omega) | (apply is_eScript_lines; omega) | (apply is_eScript_ranBy; omega)) only [↓reduceIte, ↓I_n1, obs, I_0n, l_1, l_2, l_3, l_4, l_5, l_6, l_7, l_8, l_11, l_12, l_15, l_16, l_18, l_20, l_21, l_29, l_30, l_31, l_32, l_33, l_39, l_40, l_44, l_45, l_46, l_47, l_48, l_53, l_57, l_63, l_64, l_65, l_66, l_71, l_72, l_75, l_90, l_97, l_120, l_122, l_127, l_128, l_1812, l_3600, l_4000, l_252645135, l_268435456, l_858993459, l_1431655765, I_add, I_mul, I_sub, I_addN, I_mulN, I_subN, ilt_t, ilt_f, ile_t, ile_f, ieq_t, ieq_f, up_same, up_up, I_and, I_or, I_shlN, I_shrN, I_divN, I_remN, dzI, i2cI, narI, Int.toNat_natCast, true_or, or_true, false_or, or_false, true_and, and_true, false_and, and_false, not_true_eq_false, not_false_eq_true, cFinder, gFinder_found, nFinder_found, rFinder_found, gFinder_foundCount, pFinder_foundCount, gFinder_stock, gFinder_lookedAt, pFinder_lookedAt, gFinder_boardCount, pFinder_boardCount, gFinder_pins, nFinder_pins, rFinder_pins, wFinder_pins, gFinder_pinIndexes, nFinder_pinIndexes, rFinder_pinIndexes, wFinder_pinIndexes, gFinder_isPinned, pFinder_isPinned, gFinder_ways, nFinder_ways, rFinder_ways, wFinder_ways, gFinder_knownKeys, nFinder_knownKeys, rFinder_knownKeys, wFinder_knownKeys, gFinder_knownEndings, nFinder_knownEndings, rFinder_knownEndings, wFinder_knownEndings, gFinder_searches, pFinder_searches, gFinder_at_, nFinder_at_, rFinder_at_, wFinder_at_, gFinder_row, nFinder_row, rFinder_row, wFinder_row, b_X2_walkConsts_6, d1, h1]
        · rw [flat_nil (fun n' hn' => ?_)]
          · show fnd pg vi ((fs ++ []).take 5)
            rw [tk_nil d2]
            exact hfd
          · rw [List.mem_range'] at hn'
            obtain ⟨i, hi, hn'⟩ := hn'
            refine if_neg (fun z => c1 ?_)
            exact cpre_le m2 i (by rw [show n + 1 + i = n' by omega]; exact cpreB_iff.mp z.1)
    · have : n = 4 := by omega
      subst this
      refine ⟨pg, vi, va, vl, ?_, frw_refl, hE, ?_⟩
      · simp (disch := first | assumption | omega | exact is_Script_draft | exact is_Script_made | exact is_Learner_made | exact is_Learner_madeFirst | (apply is_eScript_tasks; omega) | (apply is_eScript_lines; omega) | (apply is_eScript_ranBy; omega)) only [↓reduceIte, ↓I_n1, obs, I_0n, l_1, l_2, l_3, l_4, l_5, l_6, l_7, l_8, l_11, l_12, l_15, l_16, l_18, l_20, l_21, l_29, l_30, l_31, l_32, l_33, l_39, l_40, l_44, l_45, l_46, l_47, l_48, l_53, l_57, l_63, l_64, l_65, l_66, l_71, l_72, l_75, l_90, l_97, l_120, l_122, l_127, l_128, l_1812, l_3600, l_4000, l_252645135, l_268435456, l_858993459, l_1431655765, I_add, I_mul, I_sub, I_addN, I_mulN, I_subN, ilt_t, ilt_f, ile_t, ile_f, ieq_t, ieq_f, up_same, up_up, I_and, I_or, I_shlN, I_shrN, I_divN, I_remN, dzI, i2cI, narI, Int.toNat_natCast, true_or, or_true, false_or, or_false, true_and, and_true, false_and, and_false, not_true_eq_false, not_false_eq_true, cFinder, gFinder_found, nFinder_found, rFinder_found, gFinder_foundCount, pFinder_foundCount, gFinder_stock, gFinder_lookedAt, pFinder_lookedAt, gFinder_boardCount, pFinder_boardCount, gFinder_pins, nFinder_pins, rFinder_pins, wFinder_pins, gFinder_pinIndexes, nFinder_pinIndexes, rFinder_pinIndexes, wFinder_pinIndexes, gFinder_isPinned, pFinder_isPinned, gFinder_ways, nFinder_ways, rFinder_ways, wFinder_ways, gFinder_knownKeys, nFinder_knownKeys, rFinder_knownKeys, wFinder_knownKeys, gFinder_knownEndings, nFinder_knownEndings, rFinder_knownEndings, wFinder_knownEndings, gFinder_searches, pFinder_searches, gFinder_at_, nFinder_at_, rFinder_at_, wFinder_at_, gFinder_row, nFinder_row, rFinder_row, wFinder_row, b_X2_walkConsts_6]
      · show fnd pg vi ((fs ++ []).take 5)
        rw [tk_nil d2]
        exact hfd
end
