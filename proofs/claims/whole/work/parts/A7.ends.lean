/-! WHAT CAN END ALL: THE STATE OF A SEARCH -/
theorem comps_un {P : Nat → Option At} {ms : List (Tx × Tx)} : ∀ (n k k' : Nat) (r : Int) (ps : List Nat), (∀ j, j < n → P (k + j) = none ∧ P (k' + j) = none) → comps P ms n k r ps = comps P ms n k' r ps := by
  intro n
  induction n with
  | zero => intros; rfl
  | succ n ih =>
    intro k k' r ps h
    unfold comps
    have h0 := h 0 (by omega)
    rw [Nat.add_zero, Nat.add_zero] at h0
    rw [h0.1, h0.2]
    congr 1
    funext x
    rw [ih (k + 1) (k' + 1) (r - wt x.1) x.2 (fun j hj => by
      have := h (j + 1) (by omega)
      rw [show k + 1 + j = k + (j + 1) by omega, show k' + 1 + j = k' + (j + 1) by omega]
      exact this)]
theorem lay_injF : ∀ (iP : Bool) (s q s' q' : Fin 5), q.val < s.val → q'.val < s'.val → lay iP s.val q.val = lay iP s'.val q'.val → s.val - q.val = s'.val - q'.val ∧ (iP = false ∨ q.val = q'.val) := by decide +kernel
theorem comps_lay {P : Nat → Option At} {iP : Bool} {ms : List (Tx × Tx)} (hP : iP = false → ∀ k, k < 4 → P k = none) {s q s' q' : Nat} (hs : s ≤ 4) (hs' : s' ≤ 4) (hq : q < s) (hq' : q' < s') (e : lay iP s q = lay iP s' q') (r : Int) (ps : List Nat) : s - q = s' - q' ∧ comps P ms (s - q) q r ps = comps P ms (s' - q') q' r ps := by
  obtain ⟨h1, h2⟩ := lay_injF iP ⟨s, by omega⟩ ⟨q, by omega⟩ ⟨s', by omega⟩ ⟨q', by omega⟩ hq hq' e
  have h1 : s - q = s' - q' := h1
  refine ⟨h1, ?_⟩
  rcases h2 with h2 | h2
  · rw [h1]
    exact comps_un _ _ _ _ _ (fun j hj => ⟨hP h2 _ (by omega), hP h2 _ (by omega)⟩)
  · have h2 : q = q' := h2
    rw [h1, h2]
/-- the bit of a weight -/
def bt (n : Nat) (r : Int) : Nat := (r - 4 * n).toNat
theorem comps_ne_bd {P : Nat → Option At} {ms : List (Tx × Tx)} (h : okM ms) {n k : Nat} {r : Int} {ps : List Nat} (hc : comps P ms n k r ps ≠ []) : 4 * (n : Int) ≤ r ∧ r ≤ 16 * n := by
  constructor
  · apply Int.not_lt.mp
    intro q
    exact hc (comps_bd h (Or.inl q))
  · apply Int.not_lt.mp
    intro q
    exact hc (comps_bd h (Or.inr q))
def wyI (vl : Nat → Nat → Int64) (iP : Bool) (P : Nat → Option At) (ms : List (Tx × Tx)) : Prop := ∀ s q, q ≤ s → s ≤ 4 → ∀ r ps, psOk ms ps → comps P ms (s - q) q r ps ≠ [] → ∀ i, i < ms.length → bj (vl 515 ((lay iP s q * 4 + i) * 21 + gn ps i)) (bt (s - q) r) = true
theorem wyI_of {vl : Nat → Nat → Int64} {iP : Bool} {P : Nat → Option At} {ms : List (Tx × Tx)} (hM : okM ms) (h0 : lay0 vl ms) (hD : DN vl iP P ms 5 5) : wyI vl iP P ms := by
  have key : ∀ n s q, q + n = s → s ≤ 4 → ∀ r ps, psOk ms ps → comps P ms n q r ps ≠ [] → ∀ i, i < ms.length → bj (vl 515 ((lay iP s q * 4 + i) * 21 + gn ps i)) (bt n r) = true := by
    intro n
    induction n with
    | zero =>
      intro s q hs h4 r ps hp hc i hi
      unfold comps at hc
      split at hc
      · next c =>
        have : q = s := by omega
        subst this
        obtain ⟨c1, c2⟩ := c
        have hg : gn ps i = (gm ms i).2.length := by
          rw [c2]
          unfold gn ends gm
          rw [List.getD_eq_getElem?_getD, List.getD_eq_getElem?_getD, List.getElem?_map, List.getElem?_eq_getElem hi]
          rfl
        have h20 := (gm_ok hM hi).2.2.2
        rw [lay_end, Nat.zero_mul, Nat.zero_add, h0 i hi _ (by omega), if_pos hg, c1]
        decide
      · exact absurd rfl hc
    | succ n ih =>
      intro s q hs h4 r ps hp hc i hi
      have hbd := comps_ne_bd hM hc
      unfold comps at hc
      obtain ⟨p, hpm⟩ := List.exists_mem_of_ne_nil _ hc
      obtain ⟨x, hx, hy⟩ := List.mem_flatMap.mp hpm
      split at hy
      · next hpin =>
        obtain ⟨p', hp', -⟩ := List.mem_map.mp hy
        obtain ⟨x1, x2⟩ := nxt_mem hx
        have hst := (stAll_iff hp.1).mp x2
        have hok := cand_ok hM x1
        have hw := wt_bd hok
        have hne : comps P ms n (q + 1) (r - wt x.1) x.2 ≠ [] := List.ne_nil_of_mem hp'
        have hbd2 := comps_ne_bd hM hne
        have := ih s (q + 1) (by omega) h4 _ _ ⟨hst.1, fun i hi => stpA_lt (hst.2 i hi)⟩ hne i hi
        have hL := hD s q h4 (by omega) (Or.inl (by omega)) i hi x.1 hok hpin (fun j hj => ⟨_, _, hst.2 j hj⟩) _ _ (hst.2 i hi) _ this (by unfold bt; omega)
        have e : bt n (r - wt x.1) + (wt x.1 - 4) = bt (n + 1) r := by
          unfold bt
          omega
        rw [e] at hL
        exact hL
      · cases hy
  intro s q hq h4 r ps hp hc i hi
  exact key (s - q) s q (by omega) h4 r ps hp hc i hi
/-- what is known of earlier searches and of this one -/
def mOK (vl : Nat → Nat → Int64) (iP : Bool) (P : Nat → Option At) (ms : List (Tx × Tx)) (S : Nat) : Prop := ∀ z, z < 2048 → ∃ x, vl 516 z = Lg x ∧ x < (S + 1) * 2139291 ∧ ∀ s q ps, q < s → s ≤ 4 → psOk ms ps → x = keyN S (lay iP s q) ms.length ps → ∀ r, comps P ms (s - q) q r ps ≠ [] → bj (vl 517 z) (bt (s - q) r) = true
def EI (tx : Nat → ZText) (bd : Nat → ZBoard) (vi : Nat → Int32) (va : Nat → Nat → Int32) (vl : Nat → Nat → Int64) (vj : Int64) (me : Nat → Option Nat) (A : Nat → Nat) (P : Nat → Option At) (iP : Bool) (ms : List (Tx × Tx)) (S : Nat) : Prop := stockOk tx bd vi va me A ms ∧ pnS va P ∧ pxS va P (stN ms 3672) ∧ pdS vi P iP ∧ pnOk P ∧ lay0 vl ms ∧ wyI vl iP P ms ∧ mOK vl iP P ms S ∧ vj = Lg S ∧ S < 4000000000
def frE (vl vl' : Nat → Nat → Int64) : Prop := ∀ K, K ≠ 516 → K ≠ 517 → vl' K = vl K
theorem frE_refl {vl : Nat → Nat → Int64} : frE vl vl := fun _ _ _ => rfl
theorem frE_trans {vl vl' vl'' : Nat → Nat → Int64} (h : frE vl vl') (h' : frE vl' vl'') : frE vl vl'' := fun K a b => (h' K a b).trans (h K a b)
theorem EI_step {tx : Nat → ZText} {bd : Nat → ZBoard} {vi : Nat → Int32} {va va' : Nat → Nat → Int32} {vl vl' : Nat → Nat → Int64} {vj : Int64} {me : Nat → Option Nat} {A : Nat → Nat} {P : Nat → Option At} {iP : Bool} {ms : List (Tx × Tx)} {S : Nat} (h1 : ∀ K, K ≠ 518 → va' K = va K) (h2 : frE vl vl') (h3 : mOK vl' iP P ms S) (h : EI tx bd vi va vl vj me A P iP ms S) : EI tx bd vi va' vl' vj me A P iP ms S := by
  obtain ⟨e1, e2, e3, e4, e5, e6, e7, e8, e9⟩ := h
  have hw : vl' 515 = vl 515 := h2 _ (by decide) (by decide)
  refine ⟨stockOk_va (fun K a b => h1 K (by omega)) e1, fun k hk => by rw [h1 _ (by decide)]; exact e2 k hk, fun k hk => by rw [h1 _ (by decide)]; exact e3 k hk, e4, e5, fun i hi y hy => by rw [hw]; exact e6 i hi y hy, fun s q a b r ps c d i hi => by rw [hw]; exact e7 s q a b r ps c d i hi, h3, e9⟩
theorem EI_at {tx : Nat → ZText} {bd : Nat → ZBoard} {vi : Nat → Int32} {va va' : Nat → Nat → Int32} {vl : Nat → Nat → Int64} {vj : Int64} {me : Nat → Option Nat} {A : Nat → Nat} {P : Nat → Option At} {iP : Bool} {ms : List (Tx × Tx)} {S k : Nat} (h1 : frat va va' k) (h : EI tx bd vi va vl vj me A P iP ms S) : EI tx bd vi va' vl vj me A P iP ms S := EI_step h1.1 frE_refl h.2.2.2.2.2.2.2.1 h
theorem atR_frat {va va' : Nat → Nat → Int32} {ms : List (Tx × Tx)} {k q : Nat} {ps : List Nat} (h4 : ms.length ≤ 4) (hk : q ≤ k) (f : frat va va' k) (h : atR va ms q ps) : atR va' ms q ps := fun i hi => by
  rw [f.2 _ (by omega)]
  exact h i hi
theorem frat_le {va va' : Nat → Nat → Int32} {k q : Nat} (h : q ≤ k) (f : frat va va' k) : frat va va' q := ⟨f.1, fun x hx => f.2 x (by omega)⟩
/-- what a search below a place shall give -/
def GE (g : Nat → Int32 → Int32 → Int64 → cM → Option (Int64 × cM)) (A : Nat → Nat) (P : Nat → Option At) (iP : Bool) (ms : List (Tx × Tx)) (S s q : Nat) : Prop := ∀ (tx : Nat → ZText) (pg : Nat → ZProg) (le : Nat → ZLearnt) (ln : Nat → ZLine) (tk : Nat → ZTask) (bd : Nat → ZBoard) (vi : Nat → Int32) (va : Nat → Nat → Int32) (vl : Nat → Nat → Int64) (vj : Int64) (la : Option Nat) (me : Nat → Option Nat) (ps : List Nat) (wanted : Int64), EI tx bd vi va vl vj me A P iP ms S → psOk ms ps → atR va ms q ps → ∃ va' vl' e, g aFinder (I (s : Nat)) (I (q : Nat)) wanted (mk (tx, pg, le, ln, tk, bd, vi, va, vl, vj, la, me)) = some (e, mk (tx, pg, le, ln, tk, bd, vi, (va'), (vl'), vj, la, me)) ∧ frat va va' q ∧ EI tx bd vi va' vl' vj me A P iP ms S ∧ frE vl vl' ∧ (∀ r, comps P ms (s - q) q r ps ≠ [] → bj wanted (bt (s - q) r) = true → bj e (bt (s - q) r) = true) ∧ (s = q → ∀ b, b < 64 → bj e b = true → b = 0 ∧ ps = ends ms)
theorem cpre_le {ms : List (Tx × Tx)} {ps : List Nat} (hm : 1 ≤ ms.length) {n : Nat} : ∀ d, cpre ms ps (n + d) → cpre ms ps n := by
  intro d
  induction d with
  | zero => exact fun h => h
  | succ d ih => exact fun h => ih ((cpre_succ hm).mp h).1
theorem cl0_succ {ms : List (Tx × Tx)} {ps : List Nat} {n : Nat} (h : gn ps 0 + n < (gm ms 0).2.length) : cl0 ms ps n ++ [fa (gm ms 0).2 (gn ps 0 + n)] = cl0 ms ps (n + 1) := by
  unfold cl0
  rw [← fa_drop, take_fa (by rw [List.length_drop]; omega)]
theorem cl0_ok {ms : List (Tx × Tx)} {ps : List Nat} {n : Nat} (hM : okM ms) (hm : 1 ≤ ms.length) (h : gn ps 0 + n ≤ (gm ms 0).2.length) : okT (cl0 ms ps n) ∧ (cl0 ms ps n).length = n := by
  constructor
  · intro c hc
    exact (gm_ok hM (show 0 < ms.length by omega)).2.2.1 c (List.mem_of_mem_drop (List.mem_of_mem_take hc))
  · unfold cl0
    rw [List.length_take, List.length_drop]
    omega
theorem fa_all {l l' : Tx} (h : l.length = l'.length) (hf : ∀ i, i < l.length → fa l i = fa l' i) : l = l' := by
  refine List.ext_getElem h fun i hi hi' => ?_
  have := hf i hi
  unfold fa at this
  rw [List.getD_eq_getElem?_getD, List.getD_eq_getElem?_getD, List.getElem?_eq_getElem hi, List.getElem?_eq_getElem hi'] at this
  exact this
theorem enc_inj {a b : At} (ha : okA a) (hb : okA b) (h : enc a = enc b) : a = b := by
  cases a with
  | inl l =>
    cases b with
    | inl l' =>
      obtain ⟨a1, a2, a3⟩ := ha
      obtain ⟨b1, b2, b3⟩ := hb
      have h : cst l = cst l' := h
      obtain ⟨x0, x1, x2, x3, e, f0, f1, f2, f3, -, g0, g1, g2, g3, gl⟩ := cst_ex a1 a2 a3
      obtain ⟨y0, y1, y2, y3, e', f0', f1', f2', f3', -, g0', g1', g2', g3', gl'⟩ := cst_ex b1 b2 b3
      rw [e, e'] at h
      have hq : x0 = y0 ∧ x1 = y1 ∧ x2 = y2 ∧ x3 = y3 := by
        clear gl gl' e e' f0 f1 f2 f3 f0' f1' f2' f3' a2 b2
        omega
      obtain ⟨rfl, rfl, rfl, rfl⟩ := hq
      have hlen : l.length = l'.length := by omega
      refine congrArg Sum.inl (fa_all hlen fun i hi => ?_)
      have : i = 0 ∨ i = 1 ∨ i = 2 ∨ i = 3 := by omega
      rcases this with rfl | rfl | rfl | rfl
      · rw [f0, f0']
      · rw [f1, f1']
      · rw [f2, f2']
      · rw [f3, f3']
    | inr n =>
      have := cst_bd ha.1 ha.2.1 ha.2.2
      have h : cst l = n := h
      have hb : n < 3672 := hb
      omega
  | inr n =>
    cases b with
    | inl l' =>
      have := cst_bd hb.1 hb.2.1 hb.2.2
      have h : n = cst l' := h
      have ha : n < 3672 := ha
      omega
    | inr n' =>
      have h : n = n' := h
      rw [h]
theorem pin_eq {P : Nat → Option At} {k : Nat} (hP : pnOk P) {l : Tx} (h1 : l ≠ []) (h4 : l.length ≤ 4) (ho : okT l) : (pinI P k = -1 ∨ pinI P k = (cst l : Nat)) ↔ pinOk (P k) (.inl l) = true := by
  unfold pinI pinOk
  cases e : P k with
  | none => exact ⟨fun _ => rfl, fun _ => Or.inl rfl⟩
  | some b =>
    constructor
    · intro h
      have h : ((enc b : Nat) : Int) = -1 ∨ ((enc b : Nat) : Int) = (cst l : Nat) := h
      have h : enc b = enc (.inl l) := by
        rcases h with h | h
        · omega
        · exact Int.ofNat.inj h
      exact decide_eq_true (enc_inj (show okA (.inl l) from ⟨h1, h4, ho⟩) (hP k b e) h.symm)
    · intro h
      have h := of_decide_eq_true h
      subst h
      exact Or.inr rfl
section
variable {F : Nat}
theorem x_ce8 {g : Nat → Int32 → Int32 → Int64 → cM → Option (Int64 × cM)} {A : Nat → Nat} {P : Nat → Option At} {iP : Bool} {ms : List (Tx × Tx)} {S s q : Nat} (hF : 200000 ≤ F) (hs : s ≤ 4) (hq : q < s) (hg : GE g A P iP ms S s (q + 1)) {ps : List Nat} (hp : psOk ms ps) : ∀ (f n : Nat) (acc : Int64) (tx : Nat → ZText) (pg : Nat → ZProg) (le : Nat → ZLearnt) (ln : Nat → ZLine) (tk : Nat → ZTask) (bd : Nat → ZBoard) (vi : Nat → Int32) (va : Nat → Nat → Int32) (vl : Nat → Nat → Int64) (vj : Int64) (la : Option Nat) (me : Nat → Option Nat), n ≤ 4 → 5 - n < f → EI tx bd vi va vl vj me A P iP ms S → atR va ms q ps → cpre ms ps n → ∃ va' vl' e, f_X2_constEndings_8 F g f aFinder (I (s : Nat)) (I (q : Nat)) acc (I (cst0 (cl0 ms ps n) : Nat)) (I ((n + 1 : Nat) : Int)) (mk (tx, pg, le, ln, tk, bd, vi, va, vl, vj, la, me)) = some (e, mk (tx, pg, le, ln, tk, bd, vi, (va'), (vl'), vj, la, me)) ∧ frat va va' q ∧ EI tx bd vi va' vl' vj me A P iP ms S ∧ frE vl vl' ∧ (∀ b, b < 64 → bj acc b = true → bj e b = true) ∧ ∀ n', n < n' → n' ≤ 4 → cpre ms ps n' → pinOk (P q) (.inl (cl0 ms ps n')) = true → ∀ r, comps P ms (s - (q + 1)) (q + 1) r (psadd ms ps n') ≠ [] → bj e (bt (s - (q + 1)) r + 3 * n') = true := by
  intro f
  induction f with
  | zero => intros; omega
  | succ f ih =>
    intro n acc tx pg le ln tk bd vi va vl vj la me hn hf hE hat hc
    obtain ⟨e1, e2, e3, e4, e5, e6, e7, e8, e9⟩ := id hE
    obtain ⟨m1, m2, m3, m4, m5⟩ := id e1.1.1
    rw [s_X2_constEndings_8]
    by_cases c4 : n < 4
    · obtain ⟨va1, sg, h1, f1, hcase⟩ := x_stepOverSign (F := F) (k := q) (n := n) (tx := tx) (pg := pg) (le := le) (ln := ln) (tk := tk) (bd := bd) (vi := vi) (va := va) (vl := vl) (vj := vj) (la := la) (me := me) hF (by omega) c4 hp e1.1.1 hat hc
      have hEv := EI_at f1 hE
      rcases hcase with ⟨c1, c2, c3, c5, c6⟩ | ⟨c1, c2⟩
      · have hsb := okS_bd c3
        obtain ⟨q1, q2⟩ := (cpre_succ m2).mp c1
        have hlt := (q2 0 (by omega)).1
        obtain ⟨o1, o2⟩ := cl0_ok (ps := ps) (n := n) m4 m2 (by omega)
        obtain ⟨o3, o4⟩ := cl0_ok (ps := ps) (n := n + 1) m4 m2 (by omega)
        have hw := x_withSign (F := F) (M := mk (tx, pg, le, ln, tk, bd, vi, (va1), vl, vj, la, me)) (l := cl0 ms ps n) (s := sg) (by omega) o1 c3
        have hcs := cl0_succ hlt
        rw [c2] at hw
        rw [hcs, o2, ← c2] at hw
        have hne : cl0 ms ps (n + 1) ≠ [] := by
          intro z
          rw [z] at o4
          cases o4
        have hcb := cst_bd hne (by omega) o3
        have hc0 := cst0_of hne
        have hpin := e2 q (by omega)
        have hpin1 : va1 513 q = I (pinI P q) := by rw [f1.1 _ (by decide)]; exact hpin
        have hpb := pinI_bd e5 (k := q)
        have hsub : n + 1 - 1 = n := by omega
        have hpe := pin_eq (k := q) e5 hne (by omega) o3
        by_cases d : pinI P q = -1 ∨ pinI P q = (cst (cl0 ms ps (n + 1)) : Nat)
        · obtain ⟨va2, vl2, e', g1, g2, g3, g4, g5, -⟩ := hg tx pg le ln tk bd vi va1 vl vj la me (psadd ms ps (n + 1)) (-1) hEv c5 c6
          obtain ⟨va3, vl3, e'', i1, i2, i3, i4, i5, i6⟩ := ih (n + 1) (acc ||| e' <<< ((I ((3 * (n + 1) : Nat) : Int)).toInt64 &&& 63)) tx pg le ln tk bd vi (va2) (vl2) vj la me (by omega) (by omega) g3 (atR_frat m3 (Nat.le_succ _) g2 (atR_frat m3 (Nat.le_refl _) f1 hat)) c1
          rw [hc0] at i1
          refine ⟨va3, vl3, e'', ?_, frat_trans f1 (frat_trans (frat_le (Nat.le_succ _) g2) i2), i3, frE_trans g4 i4, fun b hb h => i5 b hb (by rw [bj_or, h]; rfl), fun n' a1 a2 a3 a4 r a5 => ?_⟩
          · rw [← i1]
            rcases d with d | d
            · rw [d] at hpin1
              simp (disch := first | assumption | omega | exact is_Script_draft | exact is_Script_made | exact is_Learner_made | exact is_Learner_madeFirst | (apply is_eScript_tasks; omega) | (apply is_eScript_lines; omega) | (apply is_eScript_ranBy; omega)) only [↓reduceIte, ↓I_n1, obs, I_0n, l_1, l_2, l_3, l_4, l_5, l_6, l_7, l_8, l_11, l_12, l_15, l_16, l_18, l_20, l_21, l_29, l_30, l_31, l_32, l_33, l_39, l_40, l_44, l_45, l_46, l_47, l_48, l_53, l_57, l_63, l_64, l_65, l_66, l_71, l_72, l_75, l_90, l_97, l_120, l_122, l_127, l_128, l_1812, l_3600, l_4000, l_252645135, l_268435456, l_858993459, l_1431655765, I_add, I_mul, I_sub, I_addN, I_mulN, I_subN, ilt_t, ilt_f, ile_t, ile_f, ieq_t, ieq_f, up_same, up_up, I_and, I_or, I_shlN, I_shrN, I_divN, I_remN, dzI, i2cI, narI, Int.toNat_natCast, true_or, or_true, false_or, or_false, true_and, and_true, false_and, and_false, not_true_eq_false, not_false_eq_true, cFinder, gFinder_found, nFinder_found, rFinder_found, gFinder_foundCount, pFinder_foundCount, gFinder_stock, gFinder_lookedAt, pFinder_lookedAt, gFinder_boardCount, pFinder_boardCount, gFinder_pins, nFinder_pins, rFinder_pins, wFinder_pins, gFinder_pinIndexes, nFinder_pinIndexes, rFinder_pinIndexes, wFinder_pinIndexes, gFinder_isPinned, pFinder_isPinned, gFinder_ways, nFinder_ways, rFinder_ways, wFinder_ways, gFinder_knownKeys, nFinder_knownKeys, rFinder_knownKeys, wFinder_knownKeys, gFinder_knownEndings, nFinder_knownEndings, rFinder_knownEndings, wFinder_knownEndings, gFinder_searches, pFinder_searches, gFinder_at_, nFinder_at_, rFinder_at_, wFinder_at_, gFinder_row, nFinder_row, rFinder_row, wFinder_row, b_X2_constEndings_8, f_X2_constEndings_65, b_X2_constEndings_65, h1, hsub, hw, hpin1, g1, x_weightOfConst, Nat.add_sub_cancel]
            · rw [d] at hpin1
              simp (disch := first | assumption | omega | exact is_Script_draft | exact is_Script_made | exact is_Learner_made | exact is_Learner_madeFirst | (apply is_eScript_tasks; omega) | (apply is_eScript_lines; omega) | (apply is_eScript_ranBy; omega)) only [↓reduceIte, ↓I_n1, obs, I_0n, l_1, l_2, l_3, l_4, l_5, l_6, l_7, l_8, l_11, l_12, l_15, l_16, l_18, l_20, l_21, l_29, l_30, l_31, l_32, l_33, l_39, l_40, l_44, l_45, l_46, l_47, l_48, l_53, l_57, l_63, l_64, l_65, l_66, l_71, l_72, l_75, l_90, l_97, l_120, l_122, l_127, l_128, l_1812, l_3600, l_4000, l_252645135, l_268435456, l_858993459, l_1431655765, I_add, I_mul, I_sub, I_addN, I_mulN, I_subN, ilt_t, ilt_f, ile_t, ile_f, ieq_t, ieq_f, up_same, up_up, I_and, I_or, I_shlN, I_shrN, I_divN, I_remN, dzI, i2cI, narI, Int.toNat_natCast, true_or, or_true, false_or, or_false, true_and, and_true, false_and, and_false, not_true_eq_false, not_false_eq_true, cFinder, gFinder_found, nFinder_found, rFinder_found, gFinder_foundCount, pFinder_foundCount, gFinder_stock, gFinder_lookedAt, pFinder_lookedAt, gFinder_boardCount, pFinder_boardCount, gFinder_pins, nFinder_pins, rFinder_pins, wFinder_pins, gFinder_pinIndexes, nFinder_pinIndexes, rFinder_pinIndexes, wFinder_pinIndexes, gFinder_isPinned, pFinder_isPinned, gFinder_ways, nFinder_ways, rFinder_ways, wFinder_ways, gFinder_knownKeys, nFinder_knownKeys, rFinder_knownKeys, wFinder_knownKeys, gFinder_knownEndings, nFinder_knownEndings, rFinder_knownEndings, wFinder_knownEndings, gFinder_searches, pFinder_searches, gFinder_at_, nFinder_at_, rFinder_at_, wFinder_at_, gFinder_row, nFinder_row, rFinder_row, wFinder_row, b_X2_constEndings_8, f_X2_constEndings_65, b_X2_constEndings_65, h1, hsub, hw, hpin1, g1, x_weightOfConst, Nat.add_sub_cancel]
          · by_cases z : n' = n + 1
            · subst z
              have hbd := comps_ne_bd m4 a5
              have hb64 : bt (s - (q + 1)) r + 3 * (n + 1) < 64 := by unfold bt; omega
              apply i5 _ hb64
              rw [bj_or, bj_shl (by omega) hb64, decide_eq_true (by omega), Bool.true_and, Nat.add_sub_cancel, g5 r a5 (bj_m1 (by omega)), Bool.or_true]
            · exact i6 n' (by omega) a2 a3 a4 r a5
        · obtain ⟨va3, vl3, e'', i1, i2, i3, i4, i5, i6⟩ := ih (n + 1) acc tx pg le ln tk bd vi (va1) vl vj la me (by omega) (by omega) hEv (atR_frat m3 (Nat.le_refl _) f1 hat) c1
          rw [hc0] at i1
          have d1 : pinI P q ≠ -1 := fun z => d (Or.inl z)
          have d2 : pinI P q ≠ (cst (cl0 ms ps (n + 1)) : Nat) := fun z => d (Or.inr z)
          refine ⟨va3, vl3, e'', ?_, frat_trans f1 i2, i3, i4, i5, fun n' a1 a2 a3 a4 r a5 => ?_⟩
          · rw [← i1]
            simp (disch := first | assumption | omega | exact is_Script_draft | exact is_Script_made | exact is_Learner_made | exact is_Learner_madeFirst | (apply is_eScript_tasks; omega) | (apply is_eScript_lines; omega) | (apply is_eScript_ranBy; omega)) only [↓reduceIte, ↓I_n1, obs, I_0n, l_1, l_2, l_3, l_4, l_5, l_6, l_7, l_8, l_11, l_12, l_15, l_16, l_18, l_20, l_21, l_29, l_30, l_31, l_32, l_33, l_39, l_40, l_44, l_45, l_46, l_47, l_48, l_53, l_57, l_63, l_64, l_65, l_66, l_71, l_72, l_75, l_90, l_97, l_120, l_122, l_127, l_128, l_1812, l_3600, l_4000, l_252645135, l_268435456, l_858993459, l_1431655765, I_add, I_mul, I_sub, I_addN, I_mulN, I_subN, ilt_t, ilt_f, ile_t, ile_f, ieq_t, ieq_f, up_same, up_up, I_and, I_or, I_shlN, I_shrN, I_divN, I_remN, dzI, i2cI, narI, Int.toNat_natCast, true_or, or_true, false_or, or_false, true_and, and_true, false_and, and_false, not_true_eq_false, not_false_eq_true, cFinder, gFinder_found, nFinder_found, rFinder_found, gFinder_foundCount, pFinder_foundCount, gFinder_stock, gFinder_lookedAt, pFinder_lookedAt, gFinder_boardCount, pFinder_boardCount, gFinder_pins, nFinder_pins, rFinder_pins, wFinder_pins, gFinder_pinIndexes, nFinder_pinIndexes, rFinder_pinIndexes, wFinder_pinIndexes, gFinder_isPinned, pFinder_isPinned, gFinder_ways, nFinder_ways, rFinder_ways, wFinder_ways, gFinder_knownKeys, nFinder_knownKeys, rFinder_knownKeys, wFinder_knownKeys, gFinder_knownEndings, nFinder_knownEndings, rFinder_knownEndings, wFinder_knownEndings, gFinder_searches, pFinder_searches, gFinder_at_, nFinder_at_, rFinder_at_, wFinder_at_, gFinder_row, nFinder_row, rFinder_row, wFinder_row, b_X2_constEndings_8, h1, hsub, hw, hpin1]
          · by_cases z : n' = n + 1
            · subst z
              exact absurd (hpe.mpr a4) d
            · exact i6 n' (by omega) a2 a3 a4 r a5
      · refine ⟨va1, vl, acc, ?_, f1, hEv, frE_refl, fun _ _ h => h, fun n' a1 a2 a3 => ?_⟩
        · rw [c2] at h1
          simp (disch := first | assumption | omega | exact is_Script_draft | exact is_Script_made | exact is_Learner_made | exact is_Learner_madeFirst | (apply is_eScript_tasks; omega) | (apply is_eScript_lines; omega) | (apply is_eScript_ranBy; omega)) only [↓reduceIte, ↓I_n1, obs, I_0n, l_1, l_2, l_3, l_4, l_5, l_6, l_7, l_8, l_11, l_12, l_15, l_16, l_18, l_20, l_21, l_29, l_30, l_31, l_32, l_33, l_39, l_40, l_44, l_45, l_46, l_47, l_48, l_53, l_57, l_63, l_64, l_65, l_66, l_71, l_72, l_75, l_90, l_97, l_120, l_122, l_127, l_128, l_1812, l_3600, l_4000, l_252645135, l_268435456, l_858993459, l_1431655765, I_add, I_mul, I_sub, I_addN, I_mulN, I_subN, ilt_t, ilt_f, ile_t, ile_f, ieq_t, ieq_f, up_same, up_up, I_and, I_or, I_shlN, I_shrN, I_divN, I_remN, dzI, i2cI, narI, Int.toNat_natCast, true_or, or_true, false_or, or_false, true_and, and_true, false_and, and_false, not_true_eq_false, not_false_eq_true, cFinder, gFinder_found, nFinder_found, rFinder_found, gFinder_foundCount, pFinder_foundCount, gFinder_stock, gFinder_lookedAt, pFinder_lookedAt, gFinder_boardCount, pFinder_boardCount, gFinder_pins, nFinder_pins, rFinder_pins, wFinder_pins, gFinder_pinIndexes, nFinder_pinIndexes, rFinder_pinIndexes, wFinder_pinIndexes, gFinder_isPinned, pFinder_isPinned, gFinder_ways, nFinder_ways, rFinder_ways, wFinder_ways, gFinder_knownKeys, nFinder_knownKeys, rFinder_knownKeys, wFinder_knownKeys, gFinder_knownEndings, nFinder_knownEndings, rFinder_knownEndings, wFinder_knownEndings, gFinder_searches, pFinder_searches, gFinder_at_, nFinder_at_, rFinder_at_, wFinder_at_, gFinder_row, nFinder_row, rFinder_row, wFinder_row, b_X2_constEndings_8, h1]
        · exfalso
          apply c1
          exact cpre_le m2 (n' - (n + 1)) (by rw [show n + 1 + (n' - (n + 1)) = n' by omega]; exact a3)
    · have : n = 4 := by omega
      subst this
      refine ⟨va, vl, acc, ?_, frat_refl, hE, frE_refl, fun _ _ h => h, fun n' a1 a2 => by omega⟩
      simp (disch := first | assumption | omega | exact is_Script_draft | exact is_Script_made | exact is_Learner_made | exact is_Learner_madeFirst | (apply is_eScript_tasks; omega) | (apply is_eScript_lines; omega) | (apply is_eScript_ranBy; omega)) only [↓reduceIte, ↓I_n1, obs, I_0n, l_1, l_2, l_3, l_4, l_5, l_6, l_7, l_8, l_11, l_12, l_15, l_16, l_18, l_20, l_21, l_29, l_30, l_31, l_32, l_33, l_39, l_40, l_44, l_45, l_46, l_47, l_48, l_53, l_57, l_63, l_64, l_65, l_66, l_71, l_72, l_75, l_90, l_97, l_120, l_122, l_127, l_128, l_1812, l_3600, l_4000, l_252645135, l_268435456, l_858993459, l_1431655765, I_add, I_mul, I_sub, I_addN, I_mulN, I_subN, ilt_t, ilt_f, ile_t, ile_f, ieq_t, ieq_f, up_same, up_up, I_and, I_or, I_shlN, I_shrN, I_divN, I_remN, dzI, i2cI, narI, Int.toNat_natCast, true_or, or_true, false_or, or_false, true_and, and_true, false_and, and_false, not_true_eq_false, not_false_eq_true, cFinder, gFinder_found, nFinder_found, rFinder_found, gFinder_foundCount, pFinder_foundCount, gFinder_stock, gFinder_lookedAt, pFinder_lookedAt, gFinder_boardCount, pFinder_boardCount, gFinder_pins, nFinder_pins, rFinder_pins, wFinder_pins, gFinder_pinIndexes, nFinder_pinIndexes, rFinder_pinIndexes, wFinder_pinIndexes, gFinder_isPinned, pFinder_isPinned, gFinder_ways, nFinder_ways, rFinder_ways, wFinder_ways, gFinder_knownKeys, nFinder_knownKeys, rFinder_knownKeys, wFinder_knownKeys, gFinder_knownEndings, nFinder_knownEndings, rFinder_knownEndings, wFinder_knownEndings, gFinder_searches, pFinder_searches, gFinder_at_, nFinder_at_, rFinder_at_, wFinder_at_, gFinder_row, nFinder_row, rFinder_row, wFinder_row, b_X2_constEndings_8]
theorem cpre_0 {ms : List (Tx × Tx)} {ps : List Nat} (hp : psOk ms ps) : cpre ms ps 0 := fun i hi => ⟨by have := hp.2 i hi; omega, rfl⟩
theorem x_constEndings {g : Nat → Int32 → Int32 → Int64 → cM → Option (Int64 × cM)} {A : Nat → Nat} {P : Nat → Option At} {iP : Bool} {ms : List (Tx × Tx)} {S s q : Nat} {tx : Nat → ZText} {pg : Nat → ZProg} {le : Nat → ZLearnt} {ln : Nat → ZLine} {tk : Nat → ZTask} {bd : Nat → ZBoard} {vi : Nat → Int32} {va : Nat → Nat → Int32} {vl : Nat → Nat → Int64} {vj : Int64} {la : Option Nat} {me : Nat → Option Nat} (hF : 200000 ≤ F) (hs : s ≤ 4) (hq : q < s) (hg : GE g A P iP ms S s (q + 1)) {ps : List Nat} (hp : psOk ms ps) (hE : EI tx bd vi va vl vj me A P iP ms S) (hat : atR va ms q ps) : ∃ va' vl' e, f_X2_constEndings F g aFinder (I (s : Nat)) (I (q : Nat)) (mk (tx, pg, le, ln, tk, bd, vi, va, vl, vj, la, me)) = some (e, mk (tx, pg, le, ln, tk, bd, vi, (va'), (vl'), vj, la, me)) ∧ frat va va' q ∧ EI tx bd vi va' vl' vj me A P iP ms S ∧ frE vl vl' ∧ ∀ n', 0 < n' → n' ≤ 4 → cpre ms ps n' → pinOk (P q) (.inl (cl0 ms ps n')) = true → ∀ r, comps P ms (s - (q + 1)) (q + 1) r (psadd ms ps n') ≠ [] → bj e (bt (s - (q + 1)) r + 3 * n') = true := by
  obtain ⟨va', vl', e, h1, h2, h3, h4, h5, h6⟩ := x_ce8 (F := F) hF hs hq hg hp F 0 0 tx pg le ln tk bd vi va vl vj la me (by omega) (by omega) hE hat (cpre_0 hp)
  refine ⟨va', vl', e, ?_, h2, h3, h4, h6⟩
  rw [← h1]
  simp (disch := first | assumption | omega | exact is_Script_draft | exact is_Script_made | exact is_Learner_made | exact is_Learner_madeFirst | (apply is_eScript_tasks; omega) | (apply is_eScript_lines; omega) | (apply is_eScript_ranBy; omega)) only [↓reduceIte, ↓I_n1, obs, I_0n, l_1, l_2, l_3, l_4, l_5, l_6, l_7, l_8, l_11, l_12, l_15, l_16, l_18, l_20, l_21, l_29, l_30, l_31, l_32, l_33, l_39, l_40, l_44, l_45, l_46, l_47, l_48, l_53, l_57, l_63, l_64, l_65, l_66, l_71, l_72, l_75, l_90, l_97, l_120, l_122, l_127, l_128, l_1812, l_3600, l_4000, l_252645135, l_268435456, l_858993459, l_1431655765, I_add, I_mul, I_sub, I_addN, I_mulN, I_subN, ilt_t, ilt_f, ile_t, ile_f, ieq_t, ieq_f, up_same, up_up, I_and, I_or, I_shlN, I_shrN, I_divN, I_remN, dzI, i2cI, narI, Int.toNat_natCast, true_or, or_true, false_or, or_false, true_and, and_true, false_and, and_false, not_true_eq_false, not_false_eq_true, cFinder, gFinder_found, nFinder_found, rFinder_found, gFinder_foundCount, pFinder_foundCount, gFinder_stock, gFinder_lookedAt, pFinder_lookedAt, gFinder_boardCount, pFinder_boardCount, gFinder_pins, nFinder_pins, rFinder_pins, wFinder_pins, gFinder_pinIndexes, nFinder_pinIndexes, rFinder_pinIndexes, wFinder_pinIndexes, gFinder_isPinned, pFinder_isPinned, gFinder_ways, nFinder_ways, rFinder_ways, wFinder_ways, gFinder_knownKeys, nFinder_knownKeys, rFinder_knownKeys, wFinder_knownKeys, gFinder_knownEndings, nFinder_knownEndings, rFinder_knownEndings, wFinder_knownEndings, gFinder_searches, pFinder_searches, gFinder_at_, nFinder_at_, rFinder_at_, wFinder_at_, gFinder_row, nFinder_row, rFinder_row, wFinder_row, b_X2_constEndings_65, f_X2_constEndings_65, b_X2_constEndings_8, b_X2_constEndings_0, f_X2_constEndings_0, f_X2_constEndings]
  rfl
end
