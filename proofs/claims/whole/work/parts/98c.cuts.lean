/-! CUTS AND EACHS ARE GATHERED -/
def usf (ms : List (Tx × Tx)) (n : Nat) : Bool := decide (∀ i, i < ms.length → ocp n (gm ms i) ≠ 0)
def stN (ms : List (Tx × Tx)) (N : Nat) : List Nat := (List.range N).filter (usf ms)
theorem stN_succ (ms : List (Tx × Tx)) (N : Nat) : stN ms (N + 1) = if usf ms N = true then stN ms N ++ [N] else stN ms N := by
  unfold stN
  rw [List.range_succ, List.filter_append]
  by_cases h : usf ms N = true
  · rw [if_pos h, List.filter_cons_of_pos h]
    rfl
  · rw [if_neg h, List.filter_cons_of_neg h, List.filter_nil, List.append_nil]
theorem stN_yes {ms : List (Tx × Tx)} {N : Nat} (h : usf ms N = true) : stN ms (N + 1) = stN ms N ++ [N] := by rw [stN_succ, if_pos h]
theorem stN_no {ms : List (Tx × Tx)} {N : Nat} (h : ¬ usf ms N = true) : stN ms (N + 1) = stN ms N := by rw [stN_succ, if_neg h]
def sumN (f : Nat → Nat) : Nat → Nat
  | 0 => 0
  | n + 1 => sumN f n + f n
theorem sumN_le {f : Nat → Nat} : ∀ {n : Nat}, (∀ k, k < n → f k ≤ 1) → sumN f n ≤ n
  | 0, _ => Nat.le_refl _
  | n + 1, h => by
    have h1 := sumN_le (n := n) (fun k hk => h k (by omega))
    have h2 := h n (by omega)
    unfold sumN
    omega
theorem sumN_add {f g : Nat → Nat} : ∀ {n : Nat}, sumN (fun k => f k + g k) n = sumN f n + sumN g n
  | 0 => rfl
  | n + 1 => by
    unfold sumN
    rw [sumN_add (n := n)]
    omega
theorem sumN_congr {f g : Nat → Nat} : ∀ {n : Nat}, (∀ k, k < n → f k = g k) → sumN f n = sumN g n
  | 0, _ => rfl
  | n + 1, h => by
    unfold sumN
    rw [sumN_congr (n := n) (fun k hk => h k (by omega)), h n (by omega)]
def chi (p : Nat → Int) (a b : Nat) : Nat := if 0 ≤ p a ∧ p a < p b then 1 else 0
theorem chi_sum {p : Nat → Int} {a b : Nat} : chi p a b + chi p b a ≤ 1 := by
  unfold chi
  split <;> split <;> omega
theorem chi_self {p : Nat → Int} {a : Nat} : chi p a a = 0 := by
  unfold chi
  rw [if_neg (by omega)]
theorem sq_le (p : Nat → Int) : ∀ n, 2 * sumN (fun a => sumN (chi p a) n) n + n ≤ n * n := by
  intro n
  induction n with
  | zero => exact Nat.le_refl _
  | succ n ih =>
    have e1 : sumN (fun a => sumN (chi p a) (n + 1)) (n + 1) = (sumN (fun a => sumN (chi p a) n) n + sumN (fun a => chi p a n) n) + (sumN (chi p n) n + chi p n n) := by
      show sumN (fun a => sumN (chi p a) n + chi p a n) n + (sumN (chi p n) n + chi p n n) = _
      rw [sumN_add]
    have e2 : sumN (fun a => chi p a n) n + sumN (chi p n) n ≤ n := by
      rw [← sumN_add]
      exact sumN_le (fun k hk => chi_sum)
    have e3 : (n + 1) * (n + 1) = n * n + 2 * n + 1 := by
      rw [Nat.add_mul, Nat.mul_add, Nat.mul_one, Nat.one_mul]
      omega
    rw [e1, chi_self, e3]
    omega
theorem usf_cut {ms : List (Tx × Tx)} (hm : 1 ≤ ms.length) {a b w : Nat} (ha : a < 30) (hb : b < 30) (hw : w < 4) (h : usf ms ((a * 30 + b) * 4 + w) = true) : ∀ i, i < ms.length → 0 ≤ plc (gm ms i).1 a ∧ plc (gm ms i).1 a < plc (gm ms i).1 b := by
  intro i hi
  have h0 := of_decide_eq_true h i hi
  unfold ocp at h0
  rw [mkA_cut ha hb hw] at h0
  unfold mkCut at h0
  by_cases c : plc (gm ms i).1 a < 0 ∨ plc (gm ms i).1 b ≤ plc (gm ms i).1 a
  · rw [if_pos c] at h0
    exact absurd rfl h0
  · omega
theorem stN_b {ms : List (Tx × Tx)} (hm : 1 ≤ ms.length) {a : Nat} (ha : a < 30) : ∀ b, b ≤ 30 → (stN ms ((a * 30 + b) * 4)).length ≤ (stN ms ((a * 30) * 4)).length + 4 * sumN (chi (fun x => plc (gm ms 0).1 x) a) b := by
  intro b
  induction b with
  | zero => intro _; exact Nat.le_refl _
  | succ b ih =>
    intro hb
    have h1 := ih (by omega)
    have st : ∀ w, w < 4 → (stN ms ((a * 30 + b) * 4 + w + 1)).length ≤ (stN ms ((a * 30 + b) * 4 + w)).length + chi (fun x => plc (gm ms 0).1 x) a b := by
      intro w hw
      by_cases h : usf ms ((a * 30 + b) * 4 + w) = true
      · have h2 := usf_cut hm ha (by omega) hw h 0 (by omega)
        rw [stN_yes h, List.length_append]
        unfold chi
        rw [if_pos h2]
        exact Nat.le_refl _
      · rw [stN_no h]
        omega
    have s0 := st 0 (by omega)
    have s1 := st 1 (by omega)
    have s2 := st 2 (by omega)
    have s3 := st 3 (by omega)
    show _ ≤ _ + 4 * (sumN (chi (fun x => plc (gm ms 0).1 x) a) b + chi (fun x => plc (gm ms 0).1 x) a b)
    rw [show (a * 30 + (b + 1)) * 4 = (a * 30 + b) * 4 + 3 + 1 by omega]
    rw [show (a * 30 + b) * 4 + 2 + 1 = (a * 30 + b) * 4 + 3 by omega] at s2
    rw [show (a * 30 + b) * 4 + 1 + 1 = (a * 30 + b) * 4 + 2 by omega] at s1
    simp only [Nat.add_zero] at s0
    omega
theorem stN_a {ms : List (Tx × Tx)} (hm : 1 ≤ ms.length) : ∀ a, a ≤ 30 → (stN ms ((a * 30) * 4)).length ≤ 4 * sumN (fun a => sumN (chi (fun x => plc (gm ms 0).1 x) a) 30) a := by
  intro a
  induction a with
  | zero => intro _; exact Nat.le_refl _
  | succ a ih =>
    intro ha
    have h1 := ih (by omega)
    have h2 := stN_b hm (show a < 30 by omega) 30 (Nat.le_refl _)
    show _ ≤ 4 * (sumN (fun a => sumN (chi (fun x => plc (gm ms 0).1 x) a) 30) a + sumN (chi (fun x => plc (gm ms 0).1 x) a) 30)
    rw [show (a + 1) * 30 * 4 = (a * 30 + 30) * 4 by omega]
    omega
theorem stN_mono (ms : List (Tx × Tx)) {N N' : Nat} (h : N ≤ N') : ∃ l, stN ms N' = stN ms N ++ l := by
  induction N' with
  | zero => exact ⟨[], by rw [show N = 0 by omega, List.append_nil]⟩
  | succ N' ih =>
    by_cases c : N = N' + 1
    · exact ⟨[], by rw [c, List.append_nil]⟩
    · obtain ⟨l, hl⟩ := ih (by omega)
      rw [stN_succ]
      split
      · exact ⟨l ++ [N'], by rw [hl, List.append_assoc]⟩
      · exact ⟨l, hl⟩
theorem stN_cap {ms : List (Tx × Tx)} (hm : 1 ≤ ms.length) : ∀ N, N ≤ 3672 → (stN ms N).length ≤ 1812 := by
  have h0 : (stN ms 3600).length ≤ 1740 := by
    have h1 := stN_a hm 30 (Nat.le_refl _)
    have h2 := sq_le (fun x => plc (gm ms 0).1 x) 30
    have e : (30 : Nat) * 30 * 4 = 3600 := rfl
    rw [e] at h1
    omega
  have hd : ∀ d, (stN ms (3600 + d)).length ≤ 1740 + d := by
    intro d
    induction d with
    | zero => exact h0
    | succ d ih =>
      rw [← Nat.add_assoc, stN_succ]
      split
      · rw [List.length_append, List.length_singleton]
        omega
      · omega
  intro N hN
  by_cases c : N ≤ 3600
  · obtain ⟨l, hl⟩ := stN_mono ms c
    have := congrArg List.length hl
    rw [List.length_append] at this
    omega
  · have := hd (N - 3600)
    rw [show 3600 + (N - 3600) = N by omega] at this
    omega
theorem stN_full {ms : List (Tx × Tx)} (hm : 1 ≤ ms.length) {N N' : Nat} (h : N ≤ N') (hN : N' ≤ 3672) (hf : 1812 ≤ (stN ms N).length) : stN ms N' = stN ms N := by
  obtain ⟨l, hl⟩ := stN_mono ms h
  have h1 := stN_cap hm N' hN
  have h2 := congrArg List.length hl
  rw [List.length_append] at h2
  have : l = [] := List.length_eq_zero_iff.mp (by omega)
  rw [hl, this, List.append_nil]
/-- rows below stay -/
def frP (va va' : Nat → Nat → Int32) (c : Nat) : Prop := (∀ K, K ≠ 446 → K ≠ 447 → va' K = va K) ∧ ∀ x, x < c * 4 → va' 446 x = va 446 x ∧ va' 447 x = va 447 x
theorem frP_trans {va va' va'' : Nat → Nat → Int32} {c : Nat} (h : frP va va' c) (h' : frP va' va'' c) : frP va va'' c := ⟨fun K a b => (h'.1 K a b).trans (h.1 K a b), fun x a => ⟨((h'.2 x a).1).trans (h.2 x a).1, ((h'.2 x a).2).trans (h.2 x a).2⟩⟩
theorem frP_refl {va : Nat → Nat → Int32} {c : Nat} : frP va va c := ⟨fun _ _ _ => rfl, fun _ _ => ⟨rfl, rfl⟩⟩
theorem stk_frP {vi : Nat → Int32} {va va' : Nat → Nat → Int32} {ms : List (Tx × Tx)} {L : List Nat} (h4 : ms.length ≤ 4) (f : frP va va' L.length) (h : stk vi va ms L) : stk vi va' ms L := by
  obtain ⟨a, b, c, d⟩ := h
  refine ⟨a, b, c, fun j hj => ?_⟩
  obtain ⟨d1, d2, d3⟩ := d j hj
  rw [f.1 _ (by decide) (by decide), f.1 _ (by decide) (by decide)]
  refine ⟨d1, d2, fun i hi => ?_⟩
  rw [(f.2 _ (by omega)).1, (f.2 _ (by omega)).2]
  exact d3 i hi
theorem grp_frP {vi : Nat → Int32} {va va' : Nat → Nat → Int32} {ms : List (Tx × Tx)} {L : List Nat} {G c : Nat} {J W : Nat → Nat} (f : frP va va' c) (h : grp vi va ms L G J W) : grp vi va' ms L G J W := grp_congr rfl (f.1 _ (by decide) (by decide)) (f.1 _ (by decide) (by decide)) (f.1 _ (by decide) (by decide)) (f.1 _ (by decide) (by decide)) h
theorem frS_frP {vi : Nat → Int32} {va va' : Nat → Nat → Int32} {c : Nat} (f : frP va va' c) : frS vi vi va va' := ⟨fun _ _ _ => rfl, fun K _ _ c d _ _ _ _ => f.1 K c d⟩
/-- one more cell of the row c -/
theorem frP_put {va : Nat → Nat → Int32} {c i : Nat} {x y : Int32} : frP va (up (up va 446 (upd (va 446) (c * 4 + i) x)) 447 (upd (va 447) (c * 4 + i) y)) c := by
  refine ⟨fun K a b => by rw [up_ne b, up_ne a], fun z hz => ⟨?_, ?_⟩⟩
  · rw [up_ne (by decide), up_same]
    unfold upd
    rw [if_neg (by omega)]
  · rw [up_same]
    unfold upd
    rw [if_neg (by omega)]
section
variable {F : Nat}
theorem x_gc54 {K : Nat → Int32 → Int32 → Int32 → cM → Option cM} {ms : List (Tx × Tx)} {A : Nat → Nat} {a b w c : Nat} (ha : a < 30) (hb : b < 30) (hw : w < 4) (hc : c < 1812) (hcut : ∀ i, i < ms.length → 0 ≤ plc (gm ms i).1 a ∧ plc (gm ms i).1 a < plc (gm ms i).1 b) : ∀ (f i : Nat) (tx : Nat → ZText) (pg : Nat → ZProg) (le : Nat → ZLearnt) (ln : Nat → ZLine) (tk : Nat → ZTask) (bd : Nat → ZBoard) (vi : Nat → Int32) (va : Nat → Nat → Int32) (vl : Nat → Nat → Int64) (vj : Int64) (la : Option Nat) (me : Nat → Option Nat), i ≤ ms.length → 6 - i ≤ f → mems tx bd vi me A ms → vi 607 = I (c : Nat) → (∀ k, k < i → ocp ((a * 30 + b) * 4 + w) (gm ms k) ≠ 0 ∧ va 446 (c * 4 + k) = I (ocp ((a * 30 + b) * 4 + w) (gm ms k) : Nat) ∧ va 447 (c * 4 + k) = I (sz ((a * 30 + b) * 4 + w) (gm ms k) : Nat)) → ∃ va' r, f_X8_gatherCuts_54 F K f aStock (I (a : Nat)) (I (b : Nat)) (I (w : Nat)) (I ((1 : Nat) : Int)) (I (i : Nat)) (mk (tx, pg, le, ln, tk, bd, vi, va, vl, vj, la, me)) = f_X8_gatherCuts_143 F K aStock (I (a : Nat)) (I (b : Nat)) (I (w : Nat)) (I (r : Nat)) (mk (tx, pg, le, ln, tk, bd, vi, (va'), vl, vj, la, me)) ∧ frP va va' c ∧ (r = 1 ∧ usf ms ((a * 30 + b) * 4 + w) = true ∧ rowOk va' ms c ((a * 30 + b) * 4 + w) ∨ r = 0 ∧ ¬ usf ms ((a * 30 + b) * 4 + w) = true) := by
  intro f
  induction f with
  | zero => intro i tx pg le ln tk bd vi va vl vj la me hi hf hM; have := hM.2.2.1; omega
  | succ f ih =>
    intro i tx pg le ln tk bd vi va vl vj la me hi hf hM h1 hk
    obtain ⟨m1, m2, m3, m4, m5⟩ := id hM
    rw [s_X8_gatherCuts_54]
    by_cases g : i < ms.length
    · obtain ⟨b1, b2, b3⟩ := m5 i g
      have e1 := x_placesOfCut (F := F) (tx := tx) (pg := pg) (le := le) (ln := ln) (tk := tk) (bd := bd) (vi := vi) (va := va) (vl := vl) (vj := vj) (la := la) (me := me) b2 b3 ha hb hw
      have hlt := ocp_lt ((a * 30 + b) * 4 + w) (gm ms i)
      obtain ⟨va1, hva1⟩ : ∃ va1, va1 = up (up va 446 (upd (va 446) (c * 4 + i) (I (ocp ((a * 30 + b) * 4 + w) (gm ms i) : Nat)))) 447 (upd (va 447) (c * 4 + i) (I (sz ((a * 30 + b) * 4 + w) (gm ms i) : Nat))) := ⟨_, rfl⟩
      have f1 : frP va va1 c := by rw [hva1]; exact frP_put
      have e2 := x_sizeOfCut (F := F) (w := w) (tx := tx) (pg := pg) (le := le) (ln := ln) (tk := tk) (bd := bd) (vi := vi) (va := up va 446 (upd (va 446) (c * 4 + i) (I (ocp ((a * 30 + b) * 4 + w) (gm ms i) : Nat)))) (vl := vl) (vj := vj) (la := la) (me := me) b2 b3 ha hb hw (hcut i g)
      have hrow : va1 446 (c * 4 + i) = I (ocp ((a * 30 + b) * 4 + w) (gm ms i) : Nat) ∧ va1 447 (c * 4 + i) = I (sz ((a * 30 + b) * 4 + w) (gm ms i) : Nat) := by
        rw [hva1]
        constructor
        · rw [up_ne (by decide), up_same]
          unfold upd
          rw [if_pos rfl]
        · rw [up_same]
          unfold upd
          rw [if_pos rfl]
      have hold : ∀ k, k < i → va1 446 (c * 4 + k) = va 446 (c * 4 + k) ∧ va1 447 (c * 4 + k) = va 447 (c * 4 + k) := fun k hk2 => by
        rw [hva1]
        constructor
        · rw [up_ne (by decide), up_same]
          unfold upd
          rw [if_neg (by omega)]
        · rw [up_same]
          unfold upd
          rw [if_neg (by omega)]
      by_cases c0 : ocp ((a * 30 + b) * 4 + w) (gm ms i) = 0
      · obtain ⟨f', rfl⟩ : ∃ f', f = f' + 1 := ⟨f - 1, by omega⟩
        refine ⟨va1, 0, ?_, f1, Or.inr ⟨rfl, fun q => of_decide_eq_true q i g c0⟩⟩
        have e3 : f_X8_gatherCuts_54 F K (f' + 1) aStock (I (a : Nat)) (I (b : Nat)) (I (w : Nat)) (I ((0 : Nat) : Int)) (I ((i + 1 : Nat) : Int)) (mk (tx, pg, le, ln, tk, bd, vi, (va1), vl, vj, la, me)) = f_X8_gatherCuts_143 F K aStock (I (a : Nat)) (I (b : Nat)) (I (w : Nat)) (I ((0 : Nat) : Int)) (mk (tx, pg, le, ln, tk, bd, vi, (va1), vl, vj, la, me)) := by
          rw [s_X8_gatherCuts_54]
          by_cases g2 : i + 1 < ms.length
          · simp (disch := first | assumption | omega | exact is_Script_draft | exact is_Script_made | exact is_Learner_made | exact is_Learner_madeFirst | (apply is_eScript_tasks; omega) | (apply is_eScript_lines; omega) | (apply is_eScript_ranBy; omega)) only [↓reduceIte, ↓I_n1, obs, I_0n, l_1, l_2, l_3, l_4, l_5, l_6, l_7, l_8, l_11, l_12, l_15, l_16, l_18, l_20, l_21, l_29, l_30, l_31, l_32, l_33, l_39, l_40, l_44, l_45, l_46, l_47, l_48, l_53, l_57, l_63, l_64, l_65, l_66, l_71, l_72, l_75, l_90, l_97, l_120, l_122, l_127, l_128, l_1812, l_3600, l_4000, l_252645135, l_268435456, l_858993459, l_1431655765, I_add, I_mul, I_sub, I_addN, I_mulN, I_subN, ilt_t, ilt_f, ile_t, ile_f, ieq_t, ieq_f, up_same, up_up, I_and, I_or, I_shlN, I_shrN, I_divN, I_remN, dzI, i2cI, narI, Int.toNat_natCast, true_or, or_true, false_or, or_false, true_and, and_true, false_and, and_false, not_true_eq_false, not_false_eq_true, cStock, gStock_boards, nStock_boards, rStock_boards, gStock_members, nStock_members, rStock_members, wStock_members, gStock_memberCount, pStock_memberCount, gStock_atoms, nStock_atoms, rStock_atoms, wStock_atoms, gStock_weights, nStock_weights, rStock_weights, wStock_weights, gStock_places, nStock_places, rStock_places, wStock_places, gStock_sizes, nStock_sizes, rStock_sizes, wStock_sizes, gStock_atomCount, pStock_atomCount, gStock_shared, nStock_shared, rStock_shared, wStock_shared, gStock_groups, nStock_groups, rStock_groups, wStock_groups, gStock_groupWeights, nStock_groupWeights, rStock_groupWeights, wStock_groupWeights, gStock_groupCount, pStock_groupCount, gStock_newest, nStock_newest, rStock_newest, wStock_newest, gStock_older, nStock_older, rStock_older, wStock_older, b_X8_gatherCuts_54, m1]
          · simp (disch := first | assumption | omega | exact is_Script_draft | exact is_Script_made | exact is_Learner_made | exact is_Learner_madeFirst | (apply is_eScript_tasks; omega) | (apply is_eScript_lines; omega) | (apply is_eScript_ranBy; omega)) only [↓reduceIte, ↓I_n1, obs, I_0n, l_1, l_2, l_3, l_4, l_5, l_6, l_7, l_8, l_11, l_12, l_15, l_16, l_18, l_20, l_21, l_29, l_30, l_31, l_32, l_33, l_39, l_40, l_44, l_45, l_46, l_47, l_48, l_53, l_57, l_63, l_64, l_65, l_66, l_71, l_72, l_75, l_90, l_97, l_120, l_122, l_127, l_128, l_1812, l_3600, l_4000, l_252645135, l_268435456, l_858993459, l_1431655765, I_add, I_mul, I_sub, I_addN, I_mulN, I_subN, ilt_t, ilt_f, ile_t, ile_f, ieq_t, ieq_f, up_same, up_up, I_and, I_or, I_shlN, I_shrN, I_divN, I_remN, dzI, i2cI, narI, Int.toNat_natCast, true_or, or_true, false_or, or_false, true_and, and_true, false_and, and_false, not_true_eq_false, not_false_eq_true, cStock, gStock_boards, nStock_boards, rStock_boards, gStock_members, nStock_members, rStock_members, wStock_members, gStock_memberCount, pStock_memberCount, gStock_atoms, nStock_atoms, rStock_atoms, wStock_atoms, gStock_weights, nStock_weights, rStock_weights, wStock_weights, gStock_places, nStock_places, rStock_places, wStock_places, gStock_sizes, nStock_sizes, rStock_sizes, wStock_sizes, gStock_atomCount, pStock_atomCount, gStock_shared, nStock_shared, rStock_shared, wStock_shared, gStock_groups, nStock_groups, rStock_groups, wStock_groups, gStock_groupWeights, nStock_groupWeights, rStock_groupWeights, wStock_groupWeights, gStock_groupCount, pStock_groupCount, gStock_newest, nStock_newest, rStock_newest, wStock_newest, gStock_older, nStock_older, rStock_older, wStock_older, b_X8_gatherCuts_54, m1]
        rw [← e3]
        rw [c0] at e1 e2 hva1
        simp (disch := first | assumption | omega | exact is_Script_draft | exact is_Script_made | exact is_Learner_made | exact is_Learner_madeFirst | (apply is_eScript_tasks; omega) | (apply is_eScript_lines; omega) | (apply is_eScript_ranBy; omega)) only [↓reduceIte, ↓I_n1, obs, I_0n, l_1, l_2, l_3, l_4, l_5, l_6, l_7, l_8, l_11, l_12, l_15, l_16, l_18, l_20, l_21, l_29, l_30, l_31, l_32, l_33, l_39, l_40, l_44, l_45, l_46, l_47, l_48, l_53, l_57, l_63, l_64, l_65, l_66, l_71, l_72, l_75, l_90, l_97, l_120, l_122, l_127, l_128, l_1812, l_3600, l_4000, l_252645135, l_268435456, l_858993459, l_1431655765, I_add, I_mul, I_sub, I_addN, I_mulN, I_subN, ilt_t, ilt_f, ile_t, ile_f, ieq_t, ieq_f, up_same, up_up, I_and, I_or, I_shlN, I_shrN, I_divN, I_remN, dzI, i2cI, narI, Int.toNat_natCast, true_or, or_true, false_or, or_false, true_and, and_true, false_and, and_false, not_true_eq_false, not_false_eq_true, cStock, gStock_boards, nStock_boards, rStock_boards, gStock_members, nStock_members, rStock_members, wStock_members, gStock_memberCount, pStock_memberCount, gStock_atoms, nStock_atoms, rStock_atoms, wStock_atoms, gStock_weights, nStock_weights, rStock_weights, wStock_weights, gStock_places, nStock_places, rStock_places, wStock_places, gStock_sizes, nStock_sizes, rStock_sizes, wStock_sizes, gStock_atomCount, pStock_atomCount, gStock_shared, nStock_shared, rStock_shared, wStock_shared, gStock_groups, nStock_groups, rStock_groups, wStock_groups, gStock_groupWeights, nStock_groupWeights, rStock_groupWeights, wStock_groupWeights, gStock_groupCount, pStock_groupCount, gStock_newest, nStock_newest, rStock_newest, wStock_newest, gStock_older, nStock_older, rStock_older, wStock_older, b_X8_gatherCuts_54, f_X8_gatherCuts_99, b_X8_gatherCuts_99, m1, b1, e1, h1, e2, up_ne]
        rw [← hva1]
      · obtain ⟨va', r, e', f', hr⟩ := ih (i + 1) tx pg le ln tk bd vi (va1) vl vj la me (by omega) (by omega) hM h1 (fun k hk2 => by
          by_cases q : k = i
          · rw [q]
            exact ⟨c0, hrow⟩
          · rw [(hold k (by omega)).1, (hold k (by omega)).2]
            exact hk k (by omega))
        refine ⟨va', r, ?_, frP_trans f1 f', hr⟩
        simp (disch := first | assumption | omega | exact is_Script_draft | exact is_Script_made | exact is_Learner_made | exact is_Learner_madeFirst | (apply is_eScript_tasks; omega) | (apply is_eScript_lines; omega) | (apply is_eScript_ranBy; omega)) only [↓reduceIte, ↓I_n1, obs, I_0n, l_1, l_2, l_3, l_4, l_5, l_6, l_7, l_8, l_11, l_12, l_15, l_16, l_18, l_20, l_21, l_29, l_30, l_31, l_32, l_33, l_39, l_40, l_44, l_45, l_46, l_47, l_48, l_53, l_57, l_63, l_64, l_65, l_66, l_71, l_72, l_75, l_90, l_97, l_120, l_122, l_127, l_128, l_1812, l_3600, l_4000, l_252645135, l_268435456, l_858993459, l_1431655765, I_add, I_mul, I_sub, I_addN, I_mulN, I_subN, ilt_t, ilt_f, ile_t, ile_f, ieq_t, ieq_f, up_same, up_up, I_and, I_or, I_shlN, I_shrN, I_divN, I_remN, dzI, i2cI, narI, Int.toNat_natCast, true_or, or_true, false_or, or_false, true_and, and_true, false_and, and_false, not_true_eq_false, not_false_eq_true, cStock, gStock_boards, nStock_boards, rStock_boards, gStock_members, nStock_members, rStock_members, wStock_members, gStock_memberCount, pStock_memberCount, gStock_atoms, nStock_atoms, rStock_atoms, wStock_atoms, gStock_weights, nStock_weights, rStock_weights, wStock_weights, gStock_places, nStock_places, rStock_places, wStock_places, gStock_sizes, nStock_sizes, rStock_sizes, wStock_sizes, gStock_atomCount, pStock_atomCount, gStock_shared, nStock_shared, rStock_shared, wStock_shared, gStock_groups, nStock_groups, rStock_groups, wStock_groups, gStock_groupWeights, nStock_groupWeights, rStock_groupWeights, wStock_groupWeights, gStock_groupCount, pStock_groupCount, gStock_newest, nStock_newest, rStock_newest, wStock_newest, gStock_older, nStock_older, rStock_older, wStock_older, b_X8_gatherCuts_54, f_X8_gatherCuts_99, b_X8_gatherCuts_99, m1, b1, e1, h1, e2, up_ne]
        rw [← hva1]
        exact e'
    · refine ⟨va, 1, ?_, frP_refl, Or.inl ⟨rfl, decide_eq_true (fun i2 hi2 => (hk i2 (by omega)).1), fun i2 hi2 => (hk i2 (by omega)).2⟩⟩
      simp (disch := first | assumption | omega | exact is_Script_draft | exact is_Script_made | exact is_Learner_made | exact is_Learner_madeFirst | (apply is_eScript_tasks; omega) | (apply is_eScript_lines; omega) | (apply is_eScript_ranBy; omega)) only [↓reduceIte, ↓I_n1, obs, I_0n, l_1, l_2, l_3, l_4, l_5, l_6, l_7, l_8, l_11, l_12, l_15, l_16, l_18, l_20, l_21, l_29, l_30, l_31, l_32, l_33, l_39, l_40, l_44, l_45, l_46, l_47, l_48, l_53, l_57, l_63, l_64, l_65, l_66, l_71, l_72, l_75, l_90, l_97, l_120, l_122, l_127, l_128, l_1812, l_3600, l_4000, l_252645135, l_268435456, l_858993459, l_1431655765, I_add, I_mul, I_sub, I_addN, I_mulN, I_subN, ilt_t, ilt_f, ile_t, ile_f, ieq_t, ieq_f, up_same, up_up, I_and, I_or, I_shlN, I_shrN, I_divN, I_remN, dzI, i2cI, narI, Int.toNat_natCast, true_or, or_true, false_or, or_false, true_and, and_true, false_and, and_false, not_true_eq_false, not_false_eq_true, cStock, gStock_boards, nStock_boards, rStock_boards, gStock_members, nStock_members, rStock_members, wStock_members, gStock_memberCount, pStock_memberCount, gStock_atoms, nStock_atoms, rStock_atoms, wStock_atoms, gStock_weights, nStock_weights, rStock_weights, wStock_weights, gStock_places, nStock_places, rStock_places, wStock_places, gStock_sizes, nStock_sizes, rStock_sizes, wStock_sizes, gStock_atomCount, pStock_atomCount, gStock_shared, nStock_shared, rStock_shared, wStock_shared, gStock_groups, nStock_groups, rStock_groups, wStock_groups, gStock_groupWeights, nStock_groupWeights, rStock_groupWeights, wStock_groupWeights, gStock_groupCount, pStock_groupCount, gStock_newest, nStock_newest, rStock_newest, wStock_newest, gStock_older, nStock_older, rStock_older, wStock_older, b_X8_gatherCuts_54, m1]
end
