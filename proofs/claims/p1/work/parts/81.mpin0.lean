/-! THE REFERENCE'S pin, but for a CONST -/
section
variable {F : Nat} {tx : Nat → ZText} {pg : Nat → ZProg} {le : Nat → ZLearnt} {ln : Nat → ZLine} {tk : Nat → ZTask} {bd : Nat → ZBoard} {vi : Nat → Int32} {va : Nat → Nat → Int32} {vl : Nat → Nat → Int64} {vj : Int64} {la : Option Nat} {me : Nat → Option Nat}
theorem m_pcStep {m : Nat} {t x j : Int} (t0 : 0 ≤ t) (t1 : t < 3) (j0 : 4 * t ≤ j) (j1 : j < 4 * t + 4) : f_X12_pin_282 F (m + 1) aModel (I t) (I x) (I j) (mk (tx, pg, le, ln, tk, bd, vi, va, vl, vj, la, me)) = f_X12_pin_282 F m aModel (I t) (I (x + b1 (va 587 j.toNat))) (I (j + 1)) (mk (tx, pg, le, ln, tk, bd, vi, va, vl, vj, la, me)) := by
  show b_X12_pin_282 F (f_X12_pin_282 F m) aModel (I t) (I x) (I j) (mk (tx, pg, le, ln, tk, bd, vi, va, vl, vj, la, me)) = _
  unfold b_X12_pin_282
  have e4 : ((4 : Int32) * I t + 4 ≤ I j) = (4 * t + 4 ≤ j) := by
    rw [show (4 : Int32) = I 4 from rfl, I_mul, I_add]
    exact I_le (by omega) (by omega) (by omega) (by omega)
  rw [if_neg (fun q => absurd (e4.mp q) (by omega)), gModel_pinKind, Option.bind_some, rModel_pinKind (by omega) (by omega), Option.bind_some]
  unfold b1
  rw [show (-1 : Int32) = I (-1) from rfl, show (1 : Int32) = I 1 from rfl, show (0 : Int32) = I 0 from rfl]
  dsimp only
  rw [I_add, I_add, I_add]
  by_cases h : va 587 j.toNat = I (-1)
  · rw [if_pos h, if_pos h]
  · rw [if_neg h, if_neg h]
theorem m_pc {t : Int} (t0 : 0 ≤ t) (t1 : t < 3) (hF : 5 ≤ F) : f_X12_pin_282 F F aModel (I t) (I 0) (I (4 * t)) (mk (tx, pg, le, ln, tk, bd, vi, va, vl, vj, la, me)) = some (I (0 + b1 (va 587 (4 * t).toNat) + b1 (va 587 (4 * t + 1).toNat) + b1 (va 587 (4 * t + 1 + 1).toNat) + b1 (va 587 (4 * t + 1 + 1 + 1).toNat)), mk (tx, pg, le, ln, tk, bd, vi, va, vl, vj, la, me)) := by
  obtain ⟨n, hn⟩ : ∃ n, F = n + 5 := ⟨F - 5, by omega⟩
  rw [show f_X12_pin_282 F F = f_X12_pin_282 F (n + 1 + 1 + 1 + 1 + 1) by rw [← hn], m_pcStep t0 t1 (by omega) (by omega), m_pcStep t0 t1 (by omega) (by omega), m_pcStep t0 t1 (by omega) (by omega), m_pcStep t0 t1 (by omega) (by omega)]
  show b_X12_pin_282 F (f_X12_pin_282 F n) aModel (I t) _ (I (4 * t + 1 + 1 + 1 + 1)) (mk (tx, pg, le, ln, tk, bd, vi, va, vl, vj, la, me)) = _
  unfold b_X12_pin_282
  have e4 : ((4 : Int32) * I t + 4 ≤ I (4 * t + 1 + 1 + 1 + 1)) = (4 * t + 4 ≤ 4 * t + 1 + 1 + 1 + 1) := by
    rw [show (4 : Int32) = I 4 from rfl, I_mul, I_add]
    exact I_le (by omega) (by omega) (by omega) (by omega)
  rw [if_pos (e4.mpr (by omega))]
theorem me_pin {t p k a b c : Int32} {er : Int} (he : er = 1 ∨ er = 2 ∨ er = 3) : f_X12_pin_163 F aModel t p k a b c aModel (I er) (mk (tx, pg, le, ln, tk, bd, vi, va, vl, vj, la, me)) = some (0, mk (tx, pg, le, ln, tk, bd, (up vi 1000 (I er)), va, vl, vj, la, me)) := by
  unfold f_X12_pin_163 b_X12_pin_163
  rw [pModel_thrown, Option.bind_some, gModel_thrown, Option.bind_some, up_same]
  rcases he with rfl | rfl | rfl
  all_goals
    rw [if_neg (by decide)]
theorem m_pin163 {t p k a b c : Int} (t0 : 0 ≤ t) (t1 : t < 3) (p0 : 0 ≤ p) (p1 : p < 4) (hF : 5 ≤ F) (hk : k = -1 ∨ k = 1 ∨ k = 2) (hp : ∀ j, j < 12 → va 587 j = I (-1)) : ∃ va', f_X12_pin_163 F aModel (I t) (I p) (I k) (I a) (I b) (I c) aModel (I 0) (mk (tx, pg, le, ln, tk, bd, vi, va, vl, vj, la, me)) = some (I (if k = -1 then 0 else 1), mk (tx, pg, le, ln, tk, bd, (up vi 1000 (I 0)), (va'), vl, vj, la, me)) := by
  have ek : ¬ I k = 0 := by rcases hk with rfl | rfl | rfl <;> decide
  refine ⟨(up (up (up (up va 587 (upd (va 587) (4 * t + p).toNat (I k))) 588 (upd ((up va 587 (upd (va 587) (4 * t + p).toNat (I k))) 588) (4 * t + p).toNat (I a))) 589 (upd ((up (up va 587 (upd (va 587) (4 * t + p).toNat (I k))) 588 (upd ((up va 587 (upd (va 587) (4 * t + p).toNat (I k))) 588) (4 * t + p).toNat (I a))) 589) (4 * t + p).toNat (I b))) 590 (upd ((up (up (up va 587 (upd (va 587) (4 * t + p).toNat (I k))) 588 (upd ((up va 587 (upd (va 587) (4 * t + p).toNat (I k))) 588) (4 * t + p).toNat (I a))) 589 (upd ((up (up va 587 (upd (va 587) (4 * t + p).toNat (I k))) 588 (upd ((up va 587 (upd (va 587) (4 * t + p).toNat (I k))) 588) (4 * t + p).toNat (I a))) 589) (4 * t + p).toNat (I b))) 590) (4 * t + p).toNat (I c))), ?_⟩
  unfold f_X12_pin_163 b_X12_pin_163
  rw [pModel_thrown, Option.bind_some, gModel_thrown, Option.bind_some, up_same, if_pos (by decide)]
  dsimp only
  rw [show (4 : Int32) = I 4 from rfl, I_mul, I_add, gModel_pinKind, Option.bind_some, wModel_pinKind (by omega) (by omega), Option.bind_some, gModel_pinA, Option.bind_some, if_neg ek]
  unfold f_X12_pin_209 b_X12_pin_209
  rw [wModel_pinA (by omega) (by omega), Option.bind_some, gModel_pinB, Option.bind_some, wModel_pinB (by omega) (by omega), Option.bind_some, gModel_pinC, Option.bind_some, wModel_pinC (by omega) (by omega), Option.bind_some, if_neg ek, show (4 : Int32) = I 4 from rfl, I_mul, show (0 : Int32) = I 0 from rfl, m_pc t0 t1 hF]
  have hn : b1 (I (-1)) = 0 := by unfold b1; rw [if_pos rfl]
  have hb : b1 (I k) = (if k = -1 then 0 else 1) := by
    unfold b1
    rcases hk with rfl | rfl | rfl
    · rfl
    · rfl
    · rfl
  rw [up_ne (by decide), up_ne (by decide), up_ne (by decide), up_same]
  have hq : ∀ j : Int, 4 * t ≤ j → j < 4 * t + 4 → b1 (upd (va 587) (4 * t + p).toNat (I k) j.toNat) = if j = 4 * t + p then (if k = -1 then 0 else 1) else 0 := by
    intro j j0 j1
    unfold upd
    by_cases h : j = 4 * t + p
    · rw [if_pos (by omega), if_pos h, hb]
    · rw [if_neg (by omega), if_neg h, hp _ (by omega), hn]
  rw [hq _ (by omega) (by omega), hq _ (by omega) (by omega), hq _ (by omega) (by omega), hq _ (by omega) (by omega)]
  congr 3
  have h4 : p = 0 ∨ p = 1 ∨ p = 2 ∨ p = 3 := by omega
  rcases h4 with rfl | rfl | rfl | rfl
  · rw [if_pos (show 4 * t = 4 * t + 0 by omega), if_neg (show ¬ 4 * t + 1 = 4 * t + 0 by omega), if_neg (show ¬ 4 * t + 1 + 1 = 4 * t + 0 by omega), if_neg (show ¬ 4 * t + 1 + 1 + 1 = 4 * t + 0 by omega)]; omega
  · rw [if_neg (show ¬ 4 * t = 4 * t + 1 by omega), if_pos (show 4 * t + 1 = 4 * t + 1 by omega), if_neg (show ¬ 4 * t + 1 + 1 = 4 * t + 1 by omega), if_neg (show ¬ 4 * t + 1 + 1 + 1 = 4 * t + 1 by omega)]; omega
  · rw [if_neg (show ¬ 4 * t = 4 * t + 2 by omega), if_neg (show ¬ 4 * t + 1 = 4 * t + 2 by omega), if_pos (show 4 * t + 1 + 1 = 4 * t + 2 by omega), if_neg (show ¬ 4 * t + 1 + 1 + 1 = 4 * t + 2 by omega)]; omega
  · rw [if_neg (show ¬ 4 * t = 4 * t + 3 by omega), if_neg (show ¬ 4 * t + 1 = 4 * t + 3 by omega), if_neg (show ¬ 4 * t + 1 + 1 = 4 * t + 3 by omega), if_pos (show 4 * t + 1 + 1 + 1 = 4 * t + 3 by omega)]; omega
end
section
variable {F : Nat} {tx : Nat → ZText} {pg : Nat → ZProg} {le : Nat → ZLearnt} {ln : Nat → ZLine} {tk : Nat → ZTask} {bd : Nat → ZBoard} {vi : Nat → Int32} {va : Nat → Nat → Int32} {vl : Nat → Nat → Int64} {vj : Int64} {la : Option Nat} {me : Nat → Option Nat}
theorem m_pin110 {t p k a b c fl : Int} (t0 : -2147483648 ≤ t) (t1 : t < 2147483648) (p0 : -2147483648 ≤ p) (p1 : p < 2147483648) (k0 : -2147483648 ≤ k) (k1 : k < 2147483648) (hF : 5 ≤ F) (hfl : fl = 0 ∨ fl = 1 ∧ (k = -1 ∨ k = 0 ∨ k = 1 ∨ k = 2)) (hd : vi 1001 = I 0) (hp : ∀ j, j < 12 → va 587 j = I (-1)) : ∃ vi' va' v, vi' 1000 = I (if 0 ≤ t ∧ t < 3 ∧ 0 ≤ p ∧ p < 4 then if fl = 0 then 2 else if k = 0 then 3 else 0 else 1) ∧ f_X12_pin_110 F aModel (I t) (I p) (I k) (I a) (I b) (I c) (I fl) (mk (tx, pg, le, ln, tk, bd, vi, va, vl, vj, la, me)) = some (I v, mk (tx, pg, le, ln, tk, bd, (vi'), (va'), vl, vj, la, me)) ∧ (0 ≤ t ∧ t < 3 ∧ 0 ≤ p ∧ p < 4 → fl = 1 → k ≠ 0 → v = if k = -1 then 0 else 1) := by
  unfold f_X12_pin_110 b_X12_pin_110
  rw [m_isTask t0 t1, Option.bind_some]
  by_cases h : 0 ≤ t ∧ t < 3
  · by_cases h2 : 0 ≤ p ∧ p < 4
    · have hg : 0 ≤ t ∧ t < 3 ∧ 0 ≤ p ∧ p < 4 := by omega
      simp only [if_pos h]
      rw [if_neg I10', show (0 : Int32) = I 0 from rfl, show (3 : Int32) = I 3 from rfl, m_isIn p0 p1 (by decide) (by decide) (by decide) (by decide), Option.bind_some]
      simp only [if_pos (show 0 ≤ p ∧ p ≤ 3 by omega)]
      rw [if_neg I10]
      rcases hfl with rfl | ⟨rfl, hk⟩
      · refine ⟨up vi 1000 (I 2), va, 0, by rw [up_same, if_pos hg, if_pos rfl], ?_, fun _ q => absurd q (by decide)⟩
        rw [if_pos rfl]
        exact me_pin (er := 2) (Or.inr (Or.inl rfl))
      · have e7 : (I k = I 0) = (k = 0) := I_eq k0 k1 (by decide) (by decide)
        by_cases hk0 : k = 0
        · refine ⟨up vi 1000 (I 3), va, 0, by rw [up_same, if_pos hg, if_neg (by decide), if_pos hk0], ?_, fun _ _ q => absurd hk0 q⟩
          rw [if_neg I10, if_pos (e7.mpr hk0), gModel_draftSize, Option.bind_some, hd, show (1 : Int32) = I 1 from rfl, show (4 : Int32) = I 4 from rfl, m_isIn (by decide) (by decide) (by decide) (by decide) (by decide) (by decide), Option.bind_some]
          simp only [if_neg (show ¬ ((1 : Int) ≤ 0 ∧ (0 : Int) ≤ 4) by decide)]
          rw [if_pos trivial]
          exact me_pin (er := 3) (Or.inr (Or.inr rfl))
        · obtain ⟨va', e⟩ := m_pin163 (tx := tx) (pg := pg) (le := le) (ln := ln) (tk := tk) (bd := bd) (vi := vi) (va := va) (vl := vl) (vj := vj) (la := la) (me := me) (a := a) (b := b) (c := c) h.1 h.2 h2.1 h2.2 hF (show k = -1 ∨ k = 1 ∨ k = 2 by omega) hp
          refine ⟨up vi 1000 (I 0), va', _, by rw [up_same, if_pos hg, if_neg (by decide), if_neg hk0], ?_, fun _ _ _ => rfl⟩
          rw [if_neg I10, if_neg (fun q => hk0 (e7.mp q))]
          exact e
    · refine ⟨up vi 1000 (I 1), va, 0, by rw [up_same, if_neg (by omega)], ?_, fun q => absurd q (by omega)⟩
      simp only [if_pos h]
      rw [if_neg I10', show (0 : Int32) = I 0 from rfl, show (3 : Int32) = I 3 from rfl, m_isIn p0 p1 (by decide) (by decide) (by decide) (by decide), Option.bind_some]
      simp only [if_neg (show ¬ (0 ≤ p ∧ p ≤ 3) by omega)]
      rw [if_pos trivial]
      exact me_pin (er := 1) (Or.inl rfl)
  · refine ⟨up vi 1000 (I 1), va, 0, by rw [up_same, if_neg (by omega)], ?_, fun q => absurd q (by omega)⟩
    simp only [if_neg h]
    rw [if_pos I00]
    exact me_pin (er := 1) (Or.inl rfl)
theorem m_pin74 {t p k a b c cf ef : Int} (k0 : -2147483648 ≤ k) (k1 : k < 2147483648) (hc : cf = if cutOK a b c then 1 else 0) (he : ef = if eachOK a b c then 1 else 0) : f_X12_pin_74 F aModel (I t) (I p) (I k) (I a) (I b) (I c) (I cf) (I ef) (mk (tx, pg, le, ln, tk, bd, vi, va, vl, vj, la, me)) = f_X12_pin_110 F aModel (I t) (I p) (I k) (I a) (I b) (I c) (I (if pinOK k a b c then 1 else 0)) (mk (tx, pg, le, ln, tk, bd, vi, va, vl, vj, la, me)) := by
  have e1 : (I k = -1) = (k = -1) := (congrArg (fun x : Int32 => I k = x) (show (-1 : Int32) = I (-1) from rfl)).trans (I_eq k0 k1 (by decide) (by decide))
  have e2 : (I k = 0) = (k = 0) := I_eq (b := 0) k0 k1 (by decide) (by decide)
  have e3 : (I k = 1) = (k = 1) := I_eq (b := 1) k0 k1 (by decide) (by decide)
  have e4 : (I k = 2) = (k = 2) := I_eq (b := 2) k0 k1 (by decide) (by decide)
  have h95 : ¬ k = -1 → ¬ k = 0 → (¬ (k = 1 ∧ cutOK a b c)) → f_X12_pin_95 F aModel (I t) (I p) (I k) (I a) (I b) (I c) (I ef) (mk (tx, pg, le, ln, tk, bd, vi, va, vl, vj, la, me)) = f_X12_pin_110 F aModel (I t) (I p) (I k) (I a) (I b) (I c) (I (if pinOK k a b c then 1 else 0)) (mk (tx, pg, le, ln, tk, bd, vi, va, vl, vj, la, me)) := by
    intro g1 g2 g3
    unfold f_X12_pin_95 b_X12_pin_95
    by_cases g4 : k = 2
    · rw [if_pos (e4.mpr g4)]
      by_cases g5 : eachOK a b c
      · rw [he, if_pos g5, if_neg I10', if_pos (show pinOK k a b c by omega)]
        rfl
      · rw [he, if_neg g5, if_pos I00, if_neg (show ¬ pinOK k a b c by omega)]
        rfl
    · rw [if_neg (fun q => g4 (e4.mp q)), if_neg (show ¬ pinOK k a b c by omega)]
      rfl
  unfold f_X12_pin_74 b_X12_pin_74
  by_cases g1 : k = -1
  · rw [if_pos (e1.mpr g1), if_pos (show pinOK k a b c by omega)]
    rfl
  rw [if_neg (fun q => g1 (e1.mp q))]
  by_cases g2 : k = 0
  · rw [if_pos (e2.mpr g2), if_pos (show pinOK k a b c by omega)]
    rfl
  rw [if_neg (fun q => g2 (e2.mp q))]
  by_cases g3 : k = 1
  · rw [if_pos (e3.mpr g3)]
    by_cases g5 : cutOK a b c
    · rw [hc, if_pos g5, if_neg I10', if_pos (show pinOK k a b c by omega)]
      rfl
    · rw [hc, if_neg g5, if_pos I00]
      exact h95 g1 g2 (fun q => g5 q.2)
  · rw [if_neg (fun q => g3 (e3.mp q))]
    exact h95 g1 g2 (fun q => g3 q.1)
theorem m_pin37 {t p k a b c cf : Int} (k0 : -2147483648 ≤ k) (k1 : k < 2147483648) (a0 : -2147483648 ≤ a) (a1 : a < 2147483648) (b0 : -2147483648 ≤ b) (b1 : b < 2147483648) (c0 : -2147483648 ≤ c) (c1 : c < 2147483648) (hc : cf = if cutOK a b c then 1 else 0) : f_X12_pin_37 F aModel (I t) (I p) (I k) (I a) (I b) (I c) (I cf) (mk (tx, pg, le, ln, tk, bd, vi, va, vl, vj, la, me)) = f_X12_pin_110 F aModel (I t) (I p) (I k) (I a) (I b) (I c) (I (if pinOK k a b c then 1 else 0)) (mk (tx, pg, le, ln, tk, bd, vi, va, vl, vj, la, me)) := by
  unfold f_X12_pin_37 b_X12_pin_37
  rw [show (0 : Int32) = I 0 from rfl, show (1 : Int32) = I 1 from rfl, show (2 : Int32) = I 2 from rfl, show (3 : Int32) = I 3 from rfl, show (5 : Int32) = I 5 from rfl, m_isIn a0 a1 (by decide) (by decide) (by decide) (by decide), Option.bind_some]
  by_cases g1 : 0 ≤ a ∧ a ≤ 3
  · simp only [if_pos g1]
    rw [if_neg I10, m_isIn b0 b1 (by decide) (by decide) (by decide) (by decide), Option.bind_some]
    by_cases g2 : 0 ≤ b ∧ b ≤ 2
    · simp only [if_pos g2]
      rw [if_neg I10, m_isIn c0 c1 (by decide) (by decide) (by decide) (by decide), Option.bind_some]
      by_cases g3 : 0 ≤ c ∧ c ≤ 5
      · simp only [if_pos g3]
        rw [if_neg I10]
        exact m_pin74 k0 k1 hc (by rw [if_pos (by omega)])
      · simp only [if_neg g3]
        rw [if_pos trivial]
        exact m_pin74 k0 k1 hc (by rw [if_neg (by omega)])
    · simp only [if_neg g2]
      rw [if_pos trivial]
      exact m_pin74 k0 k1 hc (by rw [if_neg (by omega)])
  · simp only [if_neg g1]
    rw [if_pos trivial]
    exact m_pin74 k0 k1 hc (by rw [if_neg (by omega)])
theorem m_pin0 {t p k a b c : Int} (t0 : -2147483648 ≤ t) (t1 : t < 2147483648) (p0 : -2147483648 ≤ p) (p1 : p < 2147483648) (k0 : -2147483648 ≤ k) (k1 : k < 2147483648) (a0 : -2147483648 ≤ a) (a1 : a < 2147483648) (b0 : -2147483648 ≤ b) (b1 : b < 2147483648) (c0 : -2147483648 ≤ c) (c1 : c < 2147483648) (hF : 5 ≤ F) (hd : vi 1001 = I 0) (hp : ∀ j, j < 12 → va 587 j = I (-1)) : ∃ vi' va' v, vi' 1000 = I (if 0 ≤ t ∧ t < 3 ∧ 0 ≤ p ∧ p < 4 then if pinOK k a b c then if k = 0 then 3 else 0 else 2 else 1) ∧ f_X12_pin F aModel (I t) (I p) (I k) (I a) (I b) (I c) (mk (tx, pg, le, ln, tk, bd, vi, va, vl, vj, la, me)) = some (I v, mk (tx, pg, le, ln, tk, bd, (vi'), (va'), vl, vj, la, me)) ∧ (0 ≤ t ∧ t < 3 ∧ 0 ≤ p ∧ p < 4 → pinOK k a b c → k ≠ 0 → v = if k = -1 then 0 else 1) := by
  have key : f_X12_pin F aModel (I t) (I p) (I k) (I a) (I b) (I c) (mk (tx, pg, le, ln, tk, bd, vi, va, vl, vj, la, me)) = f_X12_pin_110 F aModel (I t) (I p) (I k) (I a) (I b) (I c) (I (if pinOK k a b c then 1 else 0)) (mk (tx, pg, le, ln, tk, bd, vi, va, vl, vj, la, me)) := by
    simp only [f_X12_pin, cModel, if_true]
    unfold f_X12_pin_0 b_X12_pin_0
    rw [show (0 : Int32) = I 0 from rfl, show (1 : Int32) = I 1 from rfl, show (29 : Int32) = I 29 from rfl, show (3 : Int32) = I 3 from rfl, m_isIn a0 a1 (by decide) (by decide) (by decide) (by decide), Option.bind_some]
    by_cases g1 : 0 ≤ a ∧ a ≤ 29
    · simp only [if_pos g1]
      rw [if_neg I10, m_isIn b0 b1 (by decide) (by decide) (by decide) (by decide), Option.bind_some]
      by_cases g2 : 0 ≤ b ∧ b ≤ 29
      · simp only [if_pos g2]
        rw [if_neg I10, m_isIn c0 c1 (by decide) (by decide) (by decide) (by decide), Option.bind_some]
        by_cases g3 : 0 ≤ c ∧ c ≤ 3
        · simp only [if_pos g3]
          rw [if_neg I10]
          exact m_pin37 k0 k1 a0 a1 b0 b1 c0 c1 (by rw [if_pos (by omega)])
        · simp only [if_neg g3]
          rw [if_pos trivial]
          exact m_pin37 k0 k1 a0 a1 b0 b1 c0 c1 (by rw [if_neg (by omega)])
      · simp only [if_neg g2]
        rw [if_pos trivial]
        exact m_pin37 k0 k1 a0 a1 b0 b1 c0 c1 (by rw [if_neg (by omega)])
    · simp only [if_neg g1]
      rw [if_pos trivial]
      exact m_pin37 k0 k1 a0 a1 b0 b1 c0 c1 (by rw [if_neg (by omega)])
  rw [key]
  by_cases g : pinOK k a b c
  · obtain ⟨vi', va', v, h1, h2, h3⟩ := m_pin110 (tx := tx) (pg := pg) (le := le) (ln := ln) (tk := tk) (bd := bd) (vi := vi) (va := va) (vl := vl) (vj := vj) (la := la) (me := me) (a := a) (b := b) (c := c) t0 t1 p0 p1 k0 k1 hF (Or.inr ⟨rfl, by omega⟩) hd hp
    refine ⟨vi', va', v, ?_, by rw [if_pos g]; exact h2, fun q _ w => h3 q rfl w⟩
    rw [h1, if_pos g, if_neg (show ¬ (1 : Int) = 0 by decide)]
  · obtain ⟨vi', va', v, h1, h2, h3⟩ := m_pin110 (tx := tx) (pg := pg) (le := le) (ln := ln) (tk := tk) (bd := bd) (vi := vi) (va := va) (vl := vl) (vj := vj) (la := la) (me := me) (a := a) (b := b) (c := c) (fl := 0) t0 t1 p0 p1 k0 k1 hF (Or.inl rfl) hd hp
    refine ⟨vi', va', v, ?_, by rw [if_neg g]; exact h2, fun _ q => absurd q g⟩
    rw [h1, if_neg g, if_pos (show (0 : Int) = 0 from rfl)]
end
