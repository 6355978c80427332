/-! pin, but for a CONST -/
abbrev cutOK (a b c : Int) : Prop := 0 ≤ a ∧ a < 30 ∧ 0 ≤ b ∧ b < 30 ∧ 0 ≤ c ∧ c < 4
abbrev eachOK (a b c : Int) : Prop := 0 ≤ a ∧ a < 4 ∧ 0 ≤ b ∧ b < 3 ∧ 0 ≤ c ∧ c < 6
def b1 (x : Int32) : Int := if x = I (-1) then 0 else 1
section
variable {F : Nat} {tx : Nat → ZText} {pg : Nat → ZProg} {le : Nat → ZLearnt} {ln : Nat → ZLine} {tk : Nat → ZTask} {bd : Nat → ZBoard} {vi : Nat → Int32} {va : Nat → Nat → Int32} {vl : Nat → Nat → Int64} {vj : Int64} {la : Option Nat} {me : Nat → Option Nat}
theorem x_isCut {a b c : Int} {M : cM} (a0 : -2147483648 ≤ a) (a1 : a < 2147483648) (b0 : -2147483648 ≤ b) (b1 : b < 2147483648) (c0 : -2147483648 ≤ c) (c1 : c < 2147483648) : f_X0_isCut F (I a) (I b) (I c) M = some (if cutOK a b c then I 1 else I 0, M) := by
  simp (disch := first | omega | assumption | exact is_Script_draft | exact is_Script_made | exact is_Learner_made | exact is_Learner_madeFirst | (apply is_eScript_tasks; omega) | (apply is_eScript_lines; omega) | (apply is_eScript_ranBy; omega)) only [f_X0_isCut, f_X0_isCut_0, b_X0_isCut_0, I_0, I_1, I_lit, I_lt, I_le]
  repeat' split
  all_goals first
    | rfl
    | (exfalso; omega)
theorem x_isEach {a b c : Int} {M : cM} (a0 : -2147483648 ≤ a) (a1 : a < 2147483648) (b0 : -2147483648 ≤ b) (b1 : b < 2147483648) (c0 : -2147483648 ≤ c) (c1 : c < 2147483648) : f_X0_isEach F (I a) (I b) (I c) M = some (if eachOK a b c then I 1 else I 0, M) := by
  simp (disch := first | omega | assumption | exact is_Script_draft | exact is_Script_made | exact is_Learner_made | exact is_Learner_madeFirst | (apply is_eScript_tasks; omega) | (apply is_eScript_lines; omega) | (apply is_eScript_ranBy; omega)) only [f_X0_isEach, f_X0_isEach_0, b_X0_isEach_0, I_0, I_1, I_lit, I_lt, I_le]
  repeat' split
  all_goals first
    | rfl
    | (exfalso; omega)
theorem x_cut {a b c : Int} {M : cM} : f_X0_cut F (I a) (I b) (I c) M = some (I ((a * 30 + b) * 4 + c), M) := by
  simp only [f_X0_cut, f_X0_cut_0, b_X0_cut_0]
  rw [show (30 : Int32) = I 30 from rfl, show (4 : Int32) = I 4 from rfl, I_mul, I_add, I_mul, I_add]
theorem x_each {a b c : Int} {M : cM} : f_X0_each F (I a) (I b) (I c) M = some (I (3600 + (a * 3 + b) * 6 + c), M) := by
  simp only [f_X0_each, f_X0_each_0, b_X0_each_0]
  rw [show (3600 : Int32) = I 3600 from rfl, show (3 : Int32) = I 3 from rfl, show (6 : Int32) = I 6 from rfl, I_mul, I_add, I_mul, I_add, I_add]
theorem x_pcStep {a m : Nat} {x k : Int} (hT : isTask a) (k0 : 0 ≤ k) (k4 : k < 4) : f_X9_pinCount_4 F (m + 1) a (I x) (I k) (mk (tx, pg, le, ln, tk, bd, vi, va, vl, vj, la, me)) = f_X9_pinCount_4 F m a (I (x + b1 ((tk a).2.2.2.1 k.toNat))) (I (k + 1)) (mk (tx, pg, le, ln, tk, bd, vi, va, vl, vj, la, me)) := by
  show b_X9_pinCount_4 F (f_X9_pinCount_4 F m) a (I x) (I k) (mk (tx, pg, le, ln, tk, bd, vi, va, vl, vj, la, me)) = _
  unfold b_X9_pinCount_4
  have e4 : ((4 : Int32) ≤ I k) = ((4 : Int) ≤ k) := I_le (a := 4) (by decide) (by decide) (by omega) (by omega)
  rw [if_neg (fun q => absurd (e4.mp q) (by omega)), gTask_pins hT, Option.bind_some, rTask_pins hT k0 k4, Option.bind_some]
  unfold b1
  rw [show (-1 : Int32) = I (-1) from rfl, show (1 : Int32) = I 1 from rfl, I_add, I_add]
  by_cases h : (tk a).2.2.2.1 k.toNat = I (-1)
  · rw [if_pos h, if_pos h, Int.add_zero]
  · rw [if_neg h, if_neg h]
theorem x_pinCount {a : Nat} (hT : isTask a) (hF : 5 ≤ F) : f_X9_pinCount F a (mk (tx, pg, le, ln, tk, bd, vi, va, vl, vj, la, me)) = some (I (b1 ((tk a).2.2.2.1 0) + b1 ((tk a).2.2.2.1 1) + b1 ((tk a).2.2.2.1 2) + b1 ((tk a).2.2.2.1 3)), mk (tx, pg, le, ln, tk, bd, vi, va, vl, vj, la, me)) := by
  obtain ⟨n, hn⟩ : ∃ n, F = n + 5 := ⟨F - 5, by omega⟩
  simp only [f_X9_pinCount, f_X9_pinCount_0, b_X9_pinCount_0, cTask hT, if_true]
  rw [show f_X9_pinCount_4 F F = f_X9_pinCount_4 F (n + 1 + 1 + 1 + 1 + 1) by rw [← hn], show (0 : Int32) = I 0 from rfl, x_pcStep hT (by decide) (by decide), x_pcStep hT (by decide) (by decide), x_pcStep hT (by decide) (by decide), x_pcStep hT (by decide) (by decide)]
  show b_X9_pinCount_4 F (f_X9_pinCount_4 F n) a _ (I (0 + 1 + 1 + 1 + 1)) (mk (tx, pg, le, ln, tk, bd, vi, va, vl, vj, la, me)) = _
  unfold b_X9_pinCount_4
  rw [if_pos (by decide)]
  congr 3
  simp
theorem x_setPin {a : Nat} {p : Int} {v : Int32} (hT : isTask a) (p0 : 0 ≤ p) (p4 : p < 4) : f_X9_setPin F a (I p) v (mk (tx, pg, le, ln, tk, bd, vi, va, vl, vj, la, me)) = some (mk (tx, pg, le, ln, (up tk a ((tk a).1, (tk a).2.1, (tk a).2.2.1, upd (tk a).2.2.2.1 p.toNat v, (tk a).2.2.2.2.1, (tk a).2.2.2.2.2.1, I 0)), bd, vi, va, vl, vj, la, me)) := by
  simp only [f_X9_setPin, f_X9_setPin_0, b_X9_setPin_0, cTask hT, if_true]
  have e0 : (I p < 0) = (p < 0) := I_lt (b := 0) (by omega) (by omega) (by decide) (by decide)
  have e4 : ((4 : Int32) ≤ I p) = ((4 : Int) ≤ p) := I_le (a := 4) (by decide) (by decide) (by omega) (by omega)
  rw [if_neg (fun q => absurd (e0.mp q) (by omega)), if_neg (fun q => absurd (e4.mp q) (by omega)), gTask_pins hT, Option.bind_some, wTask_pins hT p0 p4, Option.bind_some, pTask_isBestKnown hT, Option.bind_some, up_up, up_same]
  rfl
end
section
variable {F : Nat} {tx : Nat → ZText} {pg : Nat → ZProg} {le : Nat → ZLearnt} {ln : Nat → ZLine} {tk : Nat → ZTask} {bd : Nat → ZBoard} {vi : Nat → Int32} {va : Nat → Nat → Int32} {vl : Nat → Nat → Int64} {vj : Int64} {la : Option Nat} {me : Nat → Option Nat}
abbrev pinOK (k a b c : Int) : Prop := k = -1 ∨ k = 0 ∨ (k = 1 ∧ cutOK a b c) ∨ (k = 2 ∧ eachOK a b c)
def pinA (k a b c : Int) : Int := if k = 1 then (a * 30 + b) * 4 + c else if k = 2 then 3600 + (a * 3 + b) * 6 + c else -1
theorem x_pin123 {t p k a b c : Int} (t0 : 0 ≤ t) (t1 : t < 3) (p0 : 0 ≤ p) (p1 : p < 4) (hF : 5 ≤ F) (hk : k = -1 ∨ k = 1 ∨ k = 2) (hp : ∀ j, j < 4 → (tk (eScript_tasks t.toNat)).2.2.2.1 j = I (-1)) (hA : pinA k a b c = -1 ∨ (0 ≤ pinA k a b c ∧ pinA k a b c < 4000)) : ∃ tk', f_X11_pin_123 F aScript (I t) (I p) (I k) (I a) (I b) (I c) (mk (tx, pg, le, ln, tk, bd, vi, va, vl, vj, la, me)) = some (0, I (if pinA k a b c = -1 then 0 else 1), mk (tx, pg, le, ln, (tk'), bd, vi, va, vl, vj, la, me)) := by
  have hT : isTask (eScript_tasks t.toNat) := is_eScript_tasks (by omega)
  refine ⟨up tk (eScript_tasks t.toNat) ((tk (eScript_tasks t.toNat)).1, (tk (eScript_tasks t.toNat)).2.1, (tk (eScript_tasks t.toNat)).2.2.1, upd (tk (eScript_tasks t.toNat)).2.2.2.1 p.toNat (I (pinA k a b c)), (tk (eScript_tasks t.toNat)).2.2.2.2.1, (tk (eScript_tasks t.toNat)).2.2.2.2.2.1, I 0), ?_⟩
  have ea : f_X11_atomToPin F aScript (I k) (I a) (I b) (I c) (mk (tx, pg, le, ln, tk, bd, vi, va, vl, vj, la, me)) = some (I (pinA k a b c), mk (tx, pg, le, ln, tk, bd, vi, va, vl, vj, la, me)) := by
    simp only [f_X11_atomToPin, f_X11_atomToPin_0, b_X11_atomToPin_0, cScript, if_true]
    unfold pinA
    rcases hk with rfl | rfl | rfl
    · rfl
    · rw [if_neg (show ¬ I 1 = 0 by decide), if_pos (show I 1 = 1 by decide), x_cut]
      rfl
    · rw [if_neg (show ¬ I 2 = 0 by decide), if_neg (show ¬ I 2 = 1 by decide), if_pos (show I 2 = 2 by decide), x_each]
      rfl
  have ek : ¬ I k = 0 := by rcases hk with rfl | rfl | rfl <;> decide
  unfold f_X11_pin_123 b_X11_pin_123
  rw [gScript_tasks, Option.bind_some, rScript_tasks (by omega) (by omega), Option.bind_some, ea, Option.bind_some, x_setPin hT p0 p1, Option.bind_some, if_neg ek, gScript_tasks, Option.bind_some, rScript_tasks (by omega) (by omega), Option.bind_some, x_pinCount hT hF, Option.bind_some, up_same]
  dsimp only
  have hb : b1 (I (pinA k a b c)) = (if pinA k a b c = -1 then 0 else 1) := by
    unfold b1
    have e : (I (pinA k a b c) = I (-1)) = (pinA k a b c = -1) := I_eq (by omega) (by omega) (by decide) (by decide)
    by_cases h : pinA k a b c = -1
    · rw [if_pos (e.mpr h), if_pos h]
    · rw [if_neg (fun q => h (e.mp q)), if_neg h]
  have hn : b1 (I (-1)) = 0 := by unfold b1; rw [if_pos rfl]
  congr 3
  have h4 : p = 0 ∨ p = 1 ∨ p = 2 ∨ p = 3 := by omega
  rcases h4 with rfl | rfl | rfl | rfl
  all_goals
    unfold upd
    simp only [hp _ (show 0 < 4 by decide), hp _ (show 1 < 4 by decide), hp _ (show 2 < 4 by decide), hp _ (show 3 < 4 by decide), hn]
    rw [← hb]
    simp [hn]
theorem x_pin0 {t p k a b c : Int} (t0 : -2147483648 ≤ t) (t1 : t < 2147483648) (p0 : -2147483648 ≤ p) (p1 : p < 2147483648) (k0 : -2147483648 ≤ k) (k1 : k < 2147483648) (a0 : -2147483648 ≤ a) (a1 : a < 2147483648) (b0 : -2147483648 ≤ b) (b1 : b < 2147483648) (c0 : -2147483648 ≤ c) (c1 : c < 2147483648) (hF : 5 ≤ F) (hd : (tx aScript_draft).2.2 = I 0) (hp : ∀ t : Nat, t < 3 → ∀ j, j < 4 → (tk (eScript_tasks t)).2.2.2.1 j = I (-1)) : ∃ tk', f_X11_pin F aScript (I t) (I p) (I k) (I a) (I b) (I c) (mk (tx, pg, le, ln, tk, bd, vi, va, vl, vj, la, me)) = some (if 0 ≤ t ∧ t < 3 ∧ 0 ≤ p ∧ p < 4 then if pinOK k a b c then if k = 0 then (2, 0, mk (tx, pg, le, ln, tk, bd, vi, va, vl, vj, la, me)) else (0, I (if k = -1 then 0 else 1), mk (tx, pg, le, ln, (tk'), bd, vi, va, vl, vj, la, me)) else (1, 0, mk (tx, pg, le, ln, tk, bd, vi, va, vl, vj, la, me)) else (3, 0, mk (tx, pg, le, ln, tk, bd, vi, va, vl, vj, la, me))) := by
  simp only [f_X11_pin, cScript, if_true]
  unfold f_X11_pin_0 b_X11_pin_0
  rw [x_needTask t0 t1, Option.bind_some]
  by_cases h : 0 ≤ t ∧ t < 3
  · simp only [if_pos h]
    rw [if_pos trivial]
    have e1 : (I p < 0) = (p < 0) := I_lt (b := 0) p0 p1 (by decide) (by decide)
    have e2 : (I p < 4) = (p < 4) := I_lt (b := 4) p0 p1 (by decide) (by decide)
    have e3 : (I k < -1) = (k < -1) := (congrArg (fun x : Int32 => I k < x) (show (-1 : Int32) = I (-1) from rfl)).trans (I_lt k0 k1 (by decide) (by decide))
    have e4 : (I k ≤ 2) = (k ≤ 2) := I_le (b := 2) k0 k1 (by decide) (by decide)
    have e5 : (I k = 1) = (k = 1) := I_eq (b := 1) k0 k1 (by decide) (by decide)
    have e6 : (I k = 2) = (k = 2) := I_eq (b := 2) k0 k1 (by decide) (by decide)
    have e7 : (I k = 0) = (k = 0) := I_eq (b := 0) k0 k1 (by decide) (by decide)
    by_cases hp1 : p < 0
    · exact ⟨tk, by rw [if_pos (e1.mpr hp1), if_neg (by omega)]; rfl⟩
    rw [if_neg (fun q => hp1 (e1.mp q))]
    by_cases hp2 : p < 4
    · rw [if_pos (e2.mpr hp2)]
      by_cases hk1 : k < -1
      · exact ⟨tk, by rw [if_pos (e3.mpr hk1), if_pos (by omega), if_neg (by omega)]; rfl⟩
      rw [if_neg (fun q => hk1 (e3.mp q))]
      by_cases hk2 : k ≤ 2
      · rw [if_pos (e4.mpr hk2)]
        have hg : ∀ tk' : Nat → ZTask, pinOK k a b c → ¬ k = 0 → (if 0 ≤ t ∧ t < 3 ∧ 0 ≤ p ∧ p < 4 then if pinOK k a b c then if k = 0 then ((2 : Nat), (0 : Int32), mk (tx, pg, le, ln, tk, bd, vi, va, vl, vj, la, me)) else (0, I (if k = -1 then 0 else 1), mk (tx, pg, le, ln, (tk'), bd, vi, va, vl, vj, la, me)) else (1, 0, mk (tx, pg, le, ln, tk, bd, vi, va, vl, vj, la, me)) else (3, 0, mk (tx, pg, le, ln, tk, bd, vi, va, vl, vj, la, me))) = (0, I (if k = -1 then 0 else 1), mk (tx, pg, le, ln, (tk'), bd, vi, va, vl, vj, la, me)) := fun tk' g1 g2 => by
          rw [if_pos ⟨h.1, h.2, by omega, hp2⟩, if_pos g1, if_neg g2]
        have hbad : ∀ tk' : Nat → ZTask, ¬ pinOK k a b c → (if 0 ≤ t ∧ t < 3 ∧ 0 ≤ p ∧ p < 4 then if pinOK k a b c then if k = 0 then ((2 : Nat), (0 : Int32), mk (tx, pg, le, ln, tk, bd, vi, va, vl, vj, la, me)) else (0, I (if k = -1 then 0 else 1), mk (tx, pg, le, ln, (tk'), bd, vi, va, vl, vj, la, me)) else (1, 0, mk (tx, pg, le, ln, tk, bd, vi, va, vl, vj, la, me)) else (3, 0, mk (tx, pg, le, ln, tk, bd, vi, va, vl, vj, la, me))) = (1, 0, mk (tx, pg, le, ln, tk, bd, vi, va, vl, vj, la, me)) := fun tk' g1 => by
          rw [if_pos ⟨h.1, h.2, by omega, hp2⟩, if_neg g1]
        have h4 : k = -1 ∨ k = 0 ∨ k = 1 ∨ k = 2 := by omega
        rcases h4 with rfl | rfl | rfl | rfl
        · obtain ⟨tk', e⟩ := x_pin123 (tx := tx) (pg := pg) (le := le) (ln := ln) (tk := tk) (bd := bd) (vi := vi) (va := va) (vl := vl) (vj := vj) (la := la) (me := me) (k := -1) (a := a) (b := b) (c := c) h.1 h.2 (show 0 ≤ p by omega) hp2 hF (Or.inl rfl) (hp _ (by omega)) (Or.inl rfl)
          exact ⟨tk', by rw [hg tk' (Or.inl rfl) (by decide)]; exact e⟩
        · refine ⟨tk, ?_⟩
          rw [if_neg (show ¬ I 0 = 1 by decide), if_pos (show 0 ≤ t ∧ t < 3 ∧ 0 ≤ p ∧ p < 4 by omega), if_pos (show pinOK 0 a b c from Or.inr (Or.inl rfl)), if_pos (show (0 : Int) = 0 from rfl)]
          unfold f_X11_pin_61 b_X11_pin_61
          rw [if_neg (show ¬ I 0 = 2 by decide)]
          unfold f_X11_pin_88 b_X11_pin_88
          rw [if_pos (show I 0 = 0 by decide), gScript_draft, Option.bind_some, gText_size is_Script_draft, Option.bind_some, hd, if_pos I00]
          rfl
        · rw [if_pos (by decide), x_isCut a0 a1 b0 b1 c0 c1, Option.bind_some]
          by_cases hc : cutOK a b c
          · obtain ⟨tk', e⟩ := x_pin123 (tx := tx) (pg := pg) (le := le) (ln := ln) (tk := tk) (bd := bd) (vi := vi) (va := va) (vl := vl) (vj := vj) (la := la) (me := me) (k := 1) (a := a) (b := b) (c := c) h.1 h.2 (show 0 ≤ p by omega) hp2 hF (Or.inr (Or.inl rfl)) (hp _ (by omega)) (Or.inr (by unfold pinA; rw [if_pos rfl]; omega))
            refine ⟨tk', ?_⟩
            rw [hg tk' (Or.inr (Or.inr (Or.inl ⟨rfl, hc⟩))) (by decide), if_pos hc, if_neg I10']
            unfold f_X11_pin_61 b_X11_pin_61
            rw [if_neg (by decide)]
            unfold f_X11_pin_88 b_X11_pin_88
            rw [if_neg (by decide), e, if_neg (by unfold pinA; rw [if_pos rfl]; omega)]
            rfl
          · refine ⟨tk, ?_⟩
            rw [hbad tk (by omega), if_neg hc, if_pos I00]
            rfl
        · rw [if_neg (by decide)]
          unfold f_X11_pin_61 b_X11_pin_61
          rw [if_pos (by decide), x_isEach a0 a1 b0 b1 c0 c1, Option.bind_some]
          by_cases hc : eachOK a b c
          · obtain ⟨tk', e⟩ := x_pin123 (tx := tx) (pg := pg) (le := le) (ln := ln) (tk := tk) (bd := bd) (vi := vi) (va := va) (vl := vl) (vj := vj) (la := la) (me := me) (k := 2) (a := a) (b := b) (c := c) h.1 h.2 (show 0 ≤ p by omega) hp2 hF (Or.inr (Or.inr rfl)) (hp _ (by omega)) (Or.inr (by unfold pinA; rw [if_neg (by decide), if_pos rfl]; omega))
            refine ⟨tk', ?_⟩
            rw [hg tk' (Or.inr (Or.inr (Or.inr ⟨rfl, hc⟩))) (by decide), if_pos hc, if_neg I10']
            unfold f_X11_pin_88 b_X11_pin_88
            rw [if_neg (by decide), e, if_neg (by unfold pinA; rw [if_neg (by decide), if_pos rfl]; omega)]
            rfl
          · refine ⟨tk, ?_⟩
            rw [hbad tk (by omega), if_neg hc, if_pos I00]
            rfl
      · refine ⟨tk, ?_⟩
        rw [if_neg (fun q => hk2 (e4.mp q)), if_pos ⟨h.1, h.2, by omega, hp2⟩, if_neg (by omega)]
        rfl
    · refine ⟨tk, ?_⟩
      rw [if_neg (fun q => hp2 (e2.mp q)), if_neg (by omega)]
      rfl
  · refine ⟨tk, ?_⟩
    rw [if_neg (show ¬ (0 ≤ t ∧ t < 3 ∧ 0 ≤ p ∧ p < 4) by omega)]
    simp only [if_neg h]
    rfl
end
