/-! ONE CALL: THE OTHER TEN -/
theorem chr_ex (x : Int32) : ∃ c : Int, (x.toUInt32 % 65536).toInt32 = I c ∧ 0 ≤ c ∧ c < 65536 := by
  refine ⟨((x.toUInt32 % 65536).toNat : Int), ?_, by omega, ?_⟩
  · unfold I
    rw [Int32.ofInt_eq_ofNat]
    apply Int32.toBitVec_inj.mp
    apply BitVec.eq_of_toNat_eq
    have h : (x.toUInt32 % 65536).toNat < 4294967296 := (x.toUInt32 % 65536).toNat_lt
    show (x.toUInt32 % 65536).toBitVec.toNat = (BitVec.ofNat 32 (x.toUInt32 % 65536).toNat).toNat
    rw [BitVec.toNat_ofNat, Nat.mod_eq_of_lt h]
    rfl
  · have h : (x.toUInt32 % 65536).toNat = x.toUInt32.toNat % 65536 := UInt32.toNat_mod _ _
    omega
section
variable {F : Nat}
theorem pcx_type {n : Nat} {M : cM} (hF : 200000 ≤ F) (hn : n ≤ 600) (hI : INVn n M) (y : Int32) : Agr F n (f_L_type F 0 (y.toUInt32 % 65536).toInt32 632 M) (fun M => f_X12_type F 570 (y.toUInt32 % 65536).toInt32 M) (fun v => v.toInt64) := by
  obtain ⟨S, hS, D, nl, CM, SS, EL, RF, PN, Ls, SD, rn, RL, RC, AK, tx, pg, le, ln, tk, bd, vi, va, vl, vj, la, me, rfl, hA, hC, hR⟩ := hI
  have n8 := hA.1
  have r30 := hA.2.1
  have hlc := hC.2.2.1.1
  have hrc := hC.2.2.1.2.1
  have hml := hR.2.1.1
  have hmr := hR.2.1.2.1
  have hE : ∀ T, T < 3 → (EL T).length ≤ 4 := fun T hT => (hA.2.2.2.2.2.2.2 T hT).1
  have hnow : ∀ a, a < nl → txt (tx (aLine_now (eScript_lines a))) (nowT EL RL RC (CM a) (SS a)) := fun a ha => ((hC.2.2.2.1 a (by omega)).1 ha).2
  have hlrn : ∀ T, T < 3 → lrn (le (aTask_learnt (eScript_tasks T))) (pg (aLearnt_first (aTask_learnt (eScript_tasks T)))) (pg (aLearnt_second (aTask_learnt (eScript_tasks T)))) (Ls T) := fun T hT => (hC.2.2.2.2.1 T hT).2.2.2.2.2.1
  obtain ⟨c, hc, c0, c1⟩ := chr_ex y
  rw [hc]
  obtain ⟨v, hv, e⟩ := x_type (F := F) (tx := tx) (pg := pg) (le := le) (ln := ln) (tk := tk) (bd := bd) (vi := vi) (va := va) (vl := vl) (vj := vj) (la := la) (me := me) hC.1 c0 c1 (by omega)
  by_cases ho : okS c
  · by_cases hl : D.length < 20
    · rw [if_pos ho, if_pos hl] at e
      obtain ⟨vi2, va2, e2, k1, k2, k3⟩ := m_typeK (F := F) (c := c) (tx := up tx aScript_draft v) (pg := pg) (le := le) (ln := ln) (tk := tk) (bd := bd) (vi := vi) (va := va) (vl := up vl 632 (vp_updL (vl 632) 0 (I (((D.length : Nat) : Int) + 1)).toInt64)) (vj := vj) (la := la) (me := me) c0 c1 ho hl hA hR
      exact fin_K (wq_type F 0 _ 632 _) e (by omega) hA (CI_draft hE (hv ho hl) hC) e2 k1 k2 k3 (fun _ _ => rfl) rfl
    · rw [if_pos ho, if_neg hl] at e
      have e2 := m_type (F := F) (tx := tx) (pg := pg) (le := le) (ln := ln) (tk := tk) (bd := bd) (vi := vi) (va := va) (vl := vl) (vj := vj) (la := la) (me := me) hR.1.1 hR.1.2.1 c0 c1
      rw [if_pos ho, if_neg hl] at e2
      exact fin_E (wq_type F 0 _ 632 _) e (by decide) rfl (by decide) (by omega) hA hC e2 (RI_thr r30 hR) (by rw [up_same]; rfl) frD_thr (fun _ _ => rfl)
  · rw [if_neg ho] at e
    have e2 := m_type (F := F) (tx := tx) (pg := pg) (le := le) (ln := ln) (tk := tk) (bd := bd) (vi := vi) (va := va) (vl := vl) (vj := vj) (la := la) (me := me) hR.1.1 hR.1.2.1 c0 c1
    rw [if_neg ho] at e2
    exact fin_E (wq_type F 0 _ 632 _) e (by decide) rfl (by decide) (by omega) hA hC e2 (RI_thr r30 hR) (by rw [up_same]; rfl) frD_thr (fun _ _ => rfl)
theorem pcx_line {n : Nat} {M : cM} (hF : 200000 ≤ F) (hn : n ≤ 600) (hI : INVn n M) : Agr F n (f_L_line F 0 632 M) (fun M => f_X12_line F 570 M) (fun v => v.toInt64) := by
  obtain ⟨S, hS, D, nl, CM, SS, EL, RF, PN, Ls, SD, rn, RL, RC, AK, tx, pg, le, ln, tk, bd, vi, va, vl, vj, la, me, rfl, hA, hC, hR⟩ := hI
  have n8 := hA.1
  have r30 := hA.2.1
  have hlc := hC.2.2.1.1
  have hrc := hC.2.2.1.2.1
  have hml := hR.2.1.1
  have hmr := hR.2.1.2.1
  have hE : ∀ T, T < 3 → (EL T).length ≤ 4 := fun T hT => (hA.2.2.2.2.2.2.2 T hT).1
  have hnow : ∀ a, a < nl → txt (tx (aLine_now (eScript_lines a))) (nowT EL RL RC (CM a) (SS a)) := fun a ha => ((hC.2.2.2.1 a (by omega)).1 ha).2
  have hlrn : ∀ T, T < 3 → lrn (le (aTask_learnt (eScript_tasks T))) (pg (aLearnt_first (aTask_learnt (eScript_tasks T)))) (pg (aLearnt_second (aTask_learnt (eScript_tasks T)))) (Ls T) := fun T hT => (hC.2.2.2.2.1 T hT).2.2.2.2.2.1
  by_cases h : nl = 8 ∨ 30 < rn + stdR SD 3
  · have e := x_lineE (F := F) hF h hA hC
    have e2 := m_lineE (F := F) (tx := tx) (pg := pg) (le := le) (ln := ln) (tk := tk) (bd := bd) (vi := vi) (va := va) (vl := vl) (vj := vj) (la := la) (me := me) hF h hA hR
    exact fin_E (wq_line F 0 632 _) e (by decide) rfl (by decide) (by omega) hA hC e2 (RI_thr r30 hR) (by rw [up_same]; rfl) frD_thr (fun _ _ => rfl)
  · obtain ⟨tx', pg', le', ln', vi', va', e, h1, h2, h3⟩ := x_lineK (F := F) hF (by omega) (by omega) hA hC
    obtain ⟨vi2, va2, e2, k1, k2, k3⟩ := m_lineK (F := F) (tx := tx') (pg := pg') (le := le') (ln := ln') (tk := tk) (bd := bd) (vi := vi') (va := va') (vl := up vl 632 (vp_updL (vl 632) 0 (I (nl : Nat)).toInt64)) (vj := vj) (la := la) (me := me) hF (by omega) (by omega) hA (RI_C r30 h3 hR)
    exact fin_K (wq_line F 0 632 _) e (by omega) h2 h1 e2 k1 k2 k3 (fun _ _ => rfl) rfl
theorem pcx_show {n : Nat} {M : cM} (hF : 200000 ≤ F) (hn : n ≤ 600) (hI : INVn n M) (t l : Int32) : Agr F n (f_L_show F 0 t l 632 M) (fun M => f_X12_show F 570 t l M) (fun v => v.toInt64) := by
  obtain ⟨S, hS, D, nl, CM, SS, EL, RF, PN, Ls, SD, rn, RL, RC, AK, tx, pg, le, ln, tk, bd, vi, va, vl, vj, la, me, rfl, hA, hC, hR⟩ := hI
  have n8 := hA.1
  have r30 := hA.2.1
  have hlc := hC.2.2.1.1
  have hrc := hC.2.2.1.2.1
  have hml := hR.2.1.1
  have hmr := hR.2.1.2.1
  have hE : ∀ T, T < 3 → (EL T).length ≤ 4 := fun T hT => (hA.2.2.2.2.2.2.2 T hT).1
  have hnow : ∀ a, a < nl → txt (tx (aLine_now (eScript_lines a))) (nowT EL RL RC (CM a) (SS a)) := fun a ha => ((hC.2.2.2.1 a (by omega)).1 ha).2
  have hlrn : ∀ T, T < 3 → lrn (le (aTask_learnt (eScript_tasks T))) (pg (aLearnt_first (aTask_learnt (eScript_tasks T)))) (pg (aLearnt_second (aTask_learnt (eScript_tasks T)))) (Ls T) := fun T hT => (hC.2.2.2.2.1 T hT).2.2.2.2.2.1
  obtain ⟨t, rfl, t0, t1⟩ := I_ex t
  obtain ⟨l, rfl, l0, l1⟩ := I_ex l
  by_cases c : 0 ≤ t ∧ t < 3
  · obtain ⟨T, rfl⟩ : ∃ T : Nat, t = T := ⟨t.toNat, by omega⟩
    have hT : T < 3 := by omega
    by_cases c2 : 0 ≤ l ∧ l < nl
    · obtain ⟨a, rfl⟩ : ∃ a : Nat, l = a := ⟨l.toNat, by omega⟩
      have ha : a < nl := by omega
      have hex := (hC.2.2.2.2.1 T hT).1
      by_cases c3 : D = [] ∨ (EL T).length = 4 ∨ onL (EL T) a = true
      · have e := x_showE3 (F := F) (tx := tx) (pg := pg) (le := le) (ln := ln) (tk := tk) (bd := bd) (vi := vi) (va := va) (vl := vl) (vj := vj) (la := la) (me := me) hF hT hlc n8 ha hC.1 hex c3
        have e2 := m_showE3 (F := F) (T := T) (l := a) (tx := tx) (pg := pg) (le := le) (ln := ln) (tk := tk) (bd := bd) (vi := vi) (va := va) (vl := vl) (vj := vj) (la := la) (me := me) hF hT ha c3 hA hR
        exact fin_E (wq_show F 0 _ _ 632 _) e (by decide) rfl (by decide) (by omega) hA hC e2 (RI_thr r30 hR) (by rw [up_same]; rfl) frD_thr (fun _ _ => rfl)
      · have d1 : D ≠ [] := fun q => c3 (Or.inl q)
        have d2 : (EL T).length < 4 := by
          have := hE T hT
          have : (EL T).length ≠ 4 := fun q => c3 (Or.inr (Or.inl q))
          omega
        have d3 : onL (EL T) a = false := by
          cases q : onL (EL T) a
          · rfl
          · exact absurd (Or.inr (Or.inr q)) c3
        obtain ⟨n1, n2, n3⟩ := (hC.2.2.2.1 a (by omega)).2
        have hA2 := AC_show (s := nowT EL RL RC (CM a) (SS a)) (D := D) (k := -1 - ((4 * T + (EL T).length : Nat) : Int)) rfl hT ha d2 d3 hA
        have hlen : (SS a).length < 33 := by
          have h1 := (hA2.2.2.2.2.1 a ha).1
          have h2 := cnE_le (EL := up EL T (EL T ++ [(nowT EL RL RC (CM a) (SS a), D, a)])) (l := a)
          rw [up_same, List.length_append, List.length_singleton] at h1
          omega
        obtain ⟨v1, v2, v3, v4, e, t1, t2, t3, t4⟩ := x_showK (F := F) (tx := tx) (pg := pg) (le := le) (ln := ln) (tk := tk) (bd := bd) (vi := vi) (va := va) (vl := vl) (vj := vj) (la := la) (me := me) hF hT hlc n8 ha hC.1 hex d1 d2 d3 (hnow a ha) n1 hlen
        have h1 := c_show (k := -1 - ((4 * T + (EL T).length : Nat) : Int)) rfl rfl hT ha hA d2 d3 t1 t2 t3 t4 hC
        obtain ⟨vi2, va2, e2, k1, k2, k3⟩ := m_showK (F := F) (T := T) (l := a) (tx := up (up (up (up tx (eTask_was (eScript_tasks T) (EL T).length) v1) (eTask_shown (eScript_tasks T) (EL T).length) v2) (aLine_now (eScript_lines a)) v3) aScript_draft v4) (pg := pg) (le := le) (ln := up ln (eScript_lines a) (upd (ln (eScript_lines a)).1 (SS a).length (I (-1 - ((4 * T + (EL T).length : Nat) : Int))), I (((SS a).length + 1 : Nat) : Int))) (tk := up tk (eScript_tasks T) (tkE (tk (eScript_tasks T)) (EL T).length a)) (bd := bd) (vi := vi) (va := va) (vl := up vl 632 (vp_updL (vl 632) 0 (I (((EL T).length + 1 : Nat) : Int)).toInt64)) (vj := vj) (la := la) (me := me) hF hT ha d1 d2 d3 hA hR
        exact fin_K (wq_show F 0 _ _ 632 _) e (by omega) hA2 h1 e2 k1 k2 k3 (fun _ _ => rfl) rfl
    · have e := x_showE2 (F := F) (tx := tx) (pg := pg) (le := le) (ln := ln) (tk := tk) (bd := bd) (vi := vi) (va := va) (vl := vl) (vj := vj) (la := la) (me := me) hT l0 l1 hlc n8 c2
      have e2 := m_showE2 (F := F) (tx := tx) (pg := pg) (le := le) (ln := ln) (tk := tk) (bd := bd) (vi := vi) (va := va) (vl := vl) (vj := vj) (la := la) (me := me) hT l0 l1 hml n8 c2
      exact fin_E (wq_show F 0 _ _ 632 _) e (by decide) rfl (by decide) (by omega) hA hC e2 (RI_thr r30 hR) (by rw [up_same]; rfl) frD_thr (fun _ _ => rfl)
  · have e := x_showE (F := F) (l := I l) (tx := tx) (pg := pg) (le := le) (ln := ln) (tk := tk) (bd := bd) (vi := vi) (va := va) (vl := vl) (vj := vj) (la := la) (me := me) t0 t1 c
    have e2 := m_showE (F := F) (l := I l) (tx := tx) (pg := pg) (le := le) (ln := ln) (tk := tk) (bd := bd) (vi := vi) (va := va) (vl := vl) (vj := vj) (la := la) (me := me) t0 t1 c
    exact fin_E (wq_show F 0 _ _ 632 _) e (by decide) rfl (by decide) (by omega) hA hC e2 (RI_thr r30 hR) (by rw [up_same]; rfl) frD_thr (fun _ _ => rfl)
theorem pcx_refuse {n : Nat} {M : cM} (hF : 200000 ≤ F) (hn : n ≤ 600) (hI : INVn n M) (t l : Int32) : Agr F n (f_L_refuse F 0 t l 632 M) (fun M => f_X12_refuse F 570 t l M) (fun v => v.toInt64) := by
  obtain ⟨S, hS, D, nl, CM, SS, EL, RF, PN, Ls, SD, rn, RL, RC, AK, tx, pg, le, ln, tk, bd, vi, va, vl, vj, la, me, rfl, hA, hC, hR⟩ := hI
  have n8 := hA.1
  have r30 := hA.2.1
  have hlc := hC.2.2.1.1
  have hrc := hC.2.2.1.2.1
  have hml := hR.2.1.1
  have hmr := hR.2.1.2.1
  have hE : ∀ T, T < 3 → (EL T).length ≤ 4 := fun T hT => (hA.2.2.2.2.2.2.2 T hT).1
  have hnow : ∀ a, a < nl → txt (tx (aLine_now (eScript_lines a))) (nowT EL RL RC (CM a) (SS a)) := fun a ha => ((hC.2.2.2.1 a (by omega)).1 ha).2
  have hlrn : ∀ T, T < 3 → lrn (le (aTask_learnt (eScript_tasks T))) (pg (aLearnt_first (aTask_learnt (eScript_tasks T)))) (pg (aLearnt_second (aTask_learnt (eScript_tasks T)))) (Ls T) := fun T hT => (hC.2.2.2.2.1 T hT).2.2.2.2.2.1
  obtain ⟨t, rfl, t0, t1⟩ := I_ex t
  obtain ⟨l, rfl, l0, l1⟩ := I_ex l
  by_cases c : 0 ≤ t ∧ t < 3
  · obtain ⟨T, rfl⟩ : ∃ T : Nat, t = T := ⟨t.toNat, by omega⟩
    have hT : T < 3 := by omega
    by_cases c2 : 0 ≤ l ∧ l < nl
    · obtain ⟨a, rfl⟩ : ∃ a : Nat, l = a := ⟨l.toNat, by omega⟩
      have ha : a < nl := by omega
      obtain ⟨u0, hu0⟩ := hC.2.1.1
      obtain ⟨v, u, hv, h⟩ := x_refuseK (F := F) (tx := tx) (pg := pg) (le := le) (ln := ln) (tk := tk) (bd := bd) (vi := vi) (va := va) (vl := vl) (vj := vj) (la := la) (me := me) hF hT hlc n8 ha (hlrn T hT) (hnow a ha) hu0 (hC.2.2.2.2.1 T hT).2.1
      rcases h with ⟨h, e⟩ | ⟨h, h4, v1, v2, t1, t2, e⟩
      · obtain ⟨vi2, va2, v', e2, k1, k2, k3⟩ := m_refuseE3 (F := F) (T := T) (l := a) (tx := up tx aScript_made v) (pg := pg) (le := le) (ln := ln) (tk := tk) (bd := bd) (vi := vi) (va := va) (vl := vl) (vj := vj) (la := la) (me := me) hF hT ha h hA hR
        exact fin_E (wq_refuse F 0 _ _ 632 _) e (by decide) rfl (by decide) (by omega) hA (CI_made hE hv hC) e2 k1 k2 k3 (fun _ _ => rfl)
      · have h1 := c_refuse hT hE h4 hv t1 t2 hC
        obtain ⟨vi2, va2, e2, k1, k2, k3⟩ := m_refuseK (F := F) (T := T) (l := a) (u := u) (tx := up (up (up tx aScript_made v) (eTask_refusedOf (eScript_tasks T) (RF T).length) v1) (eTask_refused (eScript_tasks T) (RF T).length) v2) (pg := pg) (le := le) (ln := ln) (tk := up tk (eScript_tasks T) (tkR (tk (eScript_tasks T)) (RF T).length)) (bd := bd) (vi := vi) (va := va) (vl := up vl 632 (vp_updL (vl 632) 0 (I (((RF T).length + 1 : Nat) : Int)).toInt64)) (vj := vj) (la := la) (me := me) hF hT ha h h4 hA hR
        exact fin_K (wq_refuse F 0 _ _ 632 _) e (by omega) hA h1 e2 k1 k2 k3 (fun _ _ => rfl) rfl
    · have e := x_refuseE2 (F := F) (tx := tx) (pg := pg) (le := le) (ln := ln) (tk := tk) (bd := bd) (vi := vi) (va := va) (vl := vl) (vj := vj) (la := la) (me := me) hT l0 l1 hlc n8 c2
      have e2 := m_refuseE2 (F := F) (tx := tx) (pg := pg) (le := le) (ln := ln) (tk := tk) (bd := bd) (vi := vi) (va := va) (vl := vl) (vj := vj) (la := la) (me := me) hT l0 l1 hml n8 c2
      exact fin_E (wq_refuse F 0 _ _ 632 _) e (by decide) rfl (by decide) (by omega) hA hC e2 (RI_thr r30 hR) (by rw [up_same]; rfl) frD_thr (fun _ _ => rfl)
  · have e := x_refuseE (F := F) (l := I l) (tx := tx) (pg := pg) (le := le) (ln := ln) (tk := tk) (bd := bd) (vi := vi) (va := va) (vl := vl) (vj := vj) (la := la) (me := me) t0 t1 c
    have e2 := m_refuseE (F := F) (l := I l) (tx := tx) (pg := pg) (le := le) (ln := ln) (tk := tk) (bd := bd) (vi := vi) (va := va) (vl := vl) (vj := vj) (la := la) (me := me) t0 t1 c
    exact fin_E (wq_refuse F 0 _ _ 632 _) e (by decide) rfl (by decide) (by omega) hA hC e2 (RI_thr r30 hR) (by rw [up_same]; rfl) frD_thr (fun _ _ => rfl)
theorem pcx_pin {n : Nat} {M : cM} (hF : 200000 ≤ F) (hn : n ≤ 600) (hI : INVn n M) (t p k a b c : Int32) : Agr F n (f_L_pin F 0 t p k a b c 632 M) (fun M => f_X12_pin F 570 t p k a b c M) (fun v => v.toInt64) := by
  obtain ⟨S, hS, D, nl, CM, SS, EL, RF, PN, Ls, SD, rn, RL, RC, AK, tx, pg, le, ln, tk, bd, vi, va, vl, vj, la, me, rfl, hA, hC, hR⟩ := hI
  have n8 := hA.1
  have r30 := hA.2.1
  have hlc := hC.2.2.1.1
  have hrc := hC.2.2.1.2.1
  have hml := hR.2.1.1
  have hmr := hR.2.1.2.1
  have hE : ∀ T, T < 3 → (EL T).length ≤ 4 := fun T hT => (hA.2.2.2.2.2.2.2 T hT).1
  have hnow : ∀ a, a < nl → txt (tx (aLine_now (eScript_lines a))) (nowT EL RL RC (CM a) (SS a)) := fun a ha => ((hC.2.2.2.1 a (by omega)).1 ha).2
  have hlrn : ∀ T, T < 3 → lrn (le (aTask_learnt (eScript_tasks T))) (pg (aLearnt_first (aTask_learnt (eScript_tasks T)))) (pg (aLearnt_second (aTask_learnt (eScript_tasks T)))) (Ls T) := fun T hT => (hC.2.2.2.2.1 T hT).2.2.2.2.2.1
  obtain ⟨t, rfl, t0, t1⟩ := I_ex t
  obtain ⟨p, rfl, p0, p1⟩ := I_ex p
  obtain ⟨k, rfl, k0, k1⟩ := I_ex k
  obtain ⟨a, rfl, a0, a1⟩ := I_ex a
  obtain ⟨b, rfl, b0, b1⟩ := I_ex b
  obtain ⟨c, rfl, c0, c1⟩ := I_ex c
  by_cases ht : 0 ≤ t ∧ t < 3
  · obtain ⟨T, rfl⟩ : ∃ T : Nat, t = T := ⟨t.toNat, by omega⟩
    have hT : T < 3 := by omega
    by_cases hp : 0 ≤ p ∧ p < 4
    · obtain ⟨q, rfl⟩ : ∃ q : Nat, p = q := ⟨p.toNat, by omega⟩
      have hq : q < 4 := by omega
      have etop := x_pinTop (F := F) (T := T) (p := q) (k := k) (a := a) (b := b) (c := c) (tx := tx) (pg := pg) (le := le) (ln := ln) (tk := tk) (bd := bd) (vi := vi) (va := va) (vl := vl) (vj := vj) (la := la) (me := me) hT hq k0 k1 a0 a1 b0 b1 c0 c1
      by_cases hk : pinOK k a b c
      · rw [if_pos hk] at etop
        have hd := hC.1
        by_cases hb : k = 0 ∧ (D = [] ∨ 4 < D.length)
        · obtain ⟨rfl, hb⟩ := hb
          have e := x_pin88E (F := F) (T := T) (p := q) (a := I a) (b := I b) (c := I c) (tx := tx) (pg := pg) (le := le) (ln := ln) (tk := tk) (bd := bd) (vi := vi) (va := va) (vl := vl) (vj := vj) (la := la) (me := me) hd hb
          have e := etop.trans e
          have e2 := m_pinE4 (F := F) (T := T) (p := q) (tx := tx) (pg := pg) (le := le) (ln := ln) (tk := tk) (bd := bd) (vi := vi) (va := va) (vl := vl) (vj := vj) (la := la) (me := me) a0 a1 b0 b1 c0 c1 hT hq hR.1.1 hR.1.2.1 hb
          exact fin_E (wq_pin F 0 _ _ _ _ _ _ 632 _) e (by decide) rfl (by decide) (by omega) hA hC e2 (RI_thr r30 hR) (by rw [up_same]; rfl) frD_thr (fun _ _ => rfl)
        · have hk0 : k = 0 → D ≠ [] ∧ D.length ≤ 4 := fun z => ⟨fun y => hb ⟨z, Or.inl y⟩, Nat.le_of_not_lt (fun y => hb ⟨z, Or.inr y⟩)⟩
          obtain ⟨x1, x2, p1, p2, p3⟩ := hC.2.2.2.2.1 T hT
          obtain ⟨v, hv, e⟩ := x_pinK (F := F) (T := T) (p := q) (k := k) (a := a) (b := b) (c := c) (P := PN T) (tx := tx) (pg := pg) (le := le) (ln := ln) (tk := tk) (bd := bd) (vi := vi) (va := va) (vl := vl) (vj := vj) (la := la) (me := me) hF hT hq hk hd hk0 p2 p1
          have e := etop.trans e
          have hok := (x_atomToPin (F := F) (tx := tx) (pg := pg) (le := le) (ln := ln) (tk := tk) (bd := bd) (vi := vi) (va := va) (vl := vl) (vj := vj) (la := la) (me := me) hF hk hd hk0).2
          have h1 := c_pin (p := q) hE hT hok hv hC
          obtain ⟨vi2, va2, e2, k1', k2, k3⟩ := m_pinK (F := F) (T := T) (p := q) (k := k) (a := a) (b := b) (c := c) (tx := up tx aScript_draft v) (pg := pg) (le := le) (ln := ln) (tk := up tk (eScript_tasks T) (tkP (tk (eScript_tasks T)) q (pinI (fun _ => pinV k a b c D) 0))) (bd := bd) (vi := vi) (va := va) (vl := up vl 632 (vp_updL (vl 632) 0 (I (pnc (up (PN T) q (pinV k a b c D)) 4 : Nat)).toInt64)) (vj := vj) (la := la) (me := me) hF k0 k1 a0 a1 b0 b1 c0 c1 hT hq hk hk0 hA hR
          exact fin_K (wq_pin F 0 _ _ _ _ _ _ 632 _) e (by omega) hA h1 e2 k1' k2 k3 (fun _ _ => rfl) rfl
      · rw [if_neg hk] at etop
        have e2 := m_pinE3 (F := F) (T := T) (p := q) (tx := tx) (pg := pg) (le := le) (ln := ln) (tk := tk) (bd := bd) (vi := vi) (va := va) (vl := vl) (vj := vj) (la := la) (me := me) k0 k1 a0 a1 b0 b1 c0 c1 hT hq hk
        exact fin_E (wq_pin F 0 _ _ _ _ _ _ 632 _) etop (by decide) rfl (by decide) (by omega) hA hC e2 (RI_thr r30 hR) (by rw [up_same]; rfl) frD_thr (fun _ _ => rfl)
    · have e := x_pinE2 (F := F) (k := I k) (a := I a) (b := I b) (c := I c) (tx := tx) (pg := pg) (le := le) (ln := ln) (tk := tk) (bd := bd) (vi := vi) (va := va) (vl := vl) (vj := vj) (la := la) (me := me) hT p0 p1 hp
      have e2 := m_pinE2 (F := F) (T := T) (p := p) (k := k) (a := a) (b := b) (c := c) (tx := tx) (pg := pg) (le := le) (ln := ln) (tk := tk) (bd := bd) (vi := vi) (va := va) (vl := vl) (vj := vj) (la := la) (me := me) k0 k1 a0 a1 b0 b1 c0 c1 hT p0 p1 hp
      exact fin_E (wq_pin F 0 _ _ _ _ _ _ 632 _) e (by decide) rfl (by decide) (by omega) hA hC e2 (RI_thr r30 hR) (by rw [up_same]; rfl) frD_thr (fun _ _ => rfl)
  · have e := x_pinE (F := F) (p := I p) (k := I k) (a := I a) (b := I b) (c := I c) (tx := tx) (pg := pg) (le := le) (ln := ln) (tk := tk) (bd := bd) (vi := vi) (va := va) (vl := vl) (vj := vj) (la := la) (me := me) t0 t1 ht
    have e2 := m_pinE (F := F) (t := t) (p := p) (k := k) (a := a) (b := b) (c := c) (tx := tx) (pg := pg) (le := le) (ln := ln) (tk := tk) (bd := bd) (vi := vi) (va := va) (vl := vl) (vj := vj) (la := la) (me := me) k0 k1 a0 a1 b0 b1 c0 c1 t0 t1 ht
    exact fin_E (wq_pin F 0 _ _ _ _ _ _ 632 _) e (by decide) rfl (by decide) (by omega) hA hC e2 (RI_thr r30 hR) (by rw [up_same]; rfl) frD_thr (fun _ _ => rfl)
theorem pcx_run {n : Nat} {M : cM} (hF : 200000 ≤ F) (hn : n ≤ 600) (hI : INVn n M) (t l q w : Int32) : Agr F n (f_L_run F 0 t l q w 632 M) (fun M => f_X12_run F 570 t l q w M) (fun v => v.toInt64) := by
  obtain ⟨S, hS, D, nl, CM, SS, EL, RF, PN, Ls, SD, rn, RL, RC, AK, tx, pg, le, ln, tk, bd, vi, va, vl, vj, la, me, rfl, hA, hC, hR⟩ := hI
  have n8 := hA.1
  have r30 := hA.2.1
  have hlc := hC.2.2.1.1
  have hrc := hC.2.2.1.2.1
  have hml := hR.2.1.1
  have hmr := hR.2.1.2.1
  have hE : ∀ T, T < 3 → (EL T).length ≤ 4 := fun T hT => (hA.2.2.2.2.2.2.2 T hT).1
  have hnow : ∀ a, a < nl → txt (tx (aLine_now (eScript_lines a))) (nowT EL RL RC (CM a) (SS a)) := fun a ha => ((hC.2.2.2.1 a (by omega)).1 ha).2
  have hlrn : ∀ T, T < 3 → lrn (le (aTask_learnt (eScript_tasks T))) (pg (aLearnt_first (aTask_learnt (eScript_tasks T)))) (pg (aLearnt_second (aTask_learnt (eScript_tasks T)))) (Ls T) := fun T hT => (hC.2.2.2.2.1 T hT).2.2.2.2.2.1
  obtain ⟨t, rfl, t0, t1⟩ := I_ex t
  obtain ⟨l, rfl, l0, l1⟩ := I_ex l
  obtain ⟨q, rfl, q0, q1⟩ := I_ex q
  obtain ⟨w, rfl, w0, w1⟩ := I_ex w
  by_cases ht : 0 ≤ t ∧ t < 3
  · obtain ⟨T, rfl⟩ : ∃ T : Nat, t = T := ⟨t.toNat, by omega⟩
    have hT : T < 3 := by omega
    by_cases c2 : ¬ (0 ≤ l ∧ l < nl) ∨ ¬ (0 ≤ q ∧ q < nl)
    · have e := x_runE2 (F := F) (w := I w) (tx := tx) (pg := pg) (le := le) (ln := ln) (tk := tk) (bd := bd) (vi := vi) (va := va) (vl := vl) (vj := vj) (la := la) (me := me) hT l0 l1 q0 q1 hlc n8 c2
      have e2 := m_runE2 (F := F) (w := I w) (tx := tx) (pg := pg) (le := le) (ln := ln) (tk := tk) (bd := bd) (vi := vi) (va := va) (vl := vl) (vj := vj) (la := la) (me := me) hT l0 l1 q0 q1 hml n8 c2
      exact fin_E (wq_run F 0 _ _ _ _ 632 _) e (by decide) rfl (by decide) (by omega) hA hC e2 (RI_thr r30 hR) (by rw [up_same]; rfl) frD_thr (fun _ _ => rfl)
    · obtain ⟨lo, rfl⟩ : ∃ lo : Nat, l = lo := ⟨l.toNat, by omega⟩
      obtain ⟨hi, rfl⟩ : ∃ hi : Nat, q = hi := ⟨q.toNat, by omega⟩
      have hlo : lo < nl := by omega
      have hhi : hi < nl := by omega
      by_cases c3 : hi < lo ∨ ¬ (0 ≤ w ∧ w ≤ 2)
      · have e := x_runE3 (F := F) (tx := tx) (pg := pg) (le := le) (ln := ln) (tk := tk) (bd := bd) (vi := vi) (va := va) (vl := vl) (vj := vj) (la := la) (me := me) hT hlo hhi w0 w1 hlc n8 c3
        have e2 := m_runE3 (F := F) (tx := tx) (pg := pg) (le := le) (ln := ln) (tk := tk) (bd := bd) (vi := vi) (va := va) (vl := vl) (vj := vj) (la := la) (me := me) hT hlo hhi w0 w1 hml n8 c3
        exact fin_E (wq_run F 0 _ _ _ _ 632 _) e (by decide) rfl (by decide) (by omega) hA hC e2 (RI_thr r30 hR) (by rw [up_same]; rfl) frD_thr (fun _ _ => rfl)
      · obtain ⟨w2, rfl⟩ : ∃ w2 : Nat, w = w2 := ⟨w.toNat, by omega⟩
        by_cases c4 : Ls T = none ∨ rn = 30
        · have e := x_runE4 (F := F) (L := Ls T) (tx := tx) (pg := pg) (le := le) (ln := ln) (tk := tk) (bd := bd) (vi := vi) (va := va) (vl := vl) (vj := vj) (la := la) (me := me) hT (show lo ≤ hi by omega) hhi (show w2 ≤ 2 by omega) hlc n8 hrc r30 (lrn_any (hlrn T hT)) c4
          have e2 := m_runE4 (F := F) (T := T) (l := lo) (q := hi) (w := w2) (tx := tx) (pg := pg) (le := le) (ln := ln) (tk := tk) (bd := bd) (vi := vi) (va := va) (vl := vl) (vj := vj) (la := la) (me := me) hT (by omega) hhi (by omega) c4 hA hR
          exact fin_E (wq_run F 0 _ _ _ _ 632 _) e (by decide) rfl (by decide) (by omega) hA hC e2 (RI_thr r30 hR) (by rw [up_same]; rfl) frD_thr (fun _ _ => rfl)
        · have hL : Ls T ≠ none := fun z => c4 (Or.inl z)
          have hr : rn < 30 := by omega
          obtain ⟨tx', pg', le', ln', vi', va', e, h1, h2⟩ := x_runK (F := F) (T := T) (lo := lo) (hi := hi) (w := w2) hF hT hr (by omega) (by omega) hhi hL hA hC
          obtain ⟨vi2, va2, e2, k1, k2, k3⟩ := m_runK (F := F) (T := T) (lo := lo) (hi := hi) (w := w2) (tx := tx') (pg := pg') (le := le') (ln := ln') (tk := tk) (bd := bd) (vi := vi') (va := va') (vl := up vl 632 (vp_updL (vl 632) 0 (I ((rnF EL RL RC CM SS Ls AK rn T lo hi w2).2.2 : Nat)).toInt64)) (vj := vj) (la := la) (me := me) hF hT hr (by omega) (by omega) hhi hL hA (RI_C r30 h2 hR)
          exact fin_K (wq_run F 0 _ _ _ _ 632 _) e (by omega) (AC_run hr hhi hL hA (by omega)) h1 e2 k1 k2 k3 (fun _ _ => rfl) rfl
  · have e := (x_ntE1 (F := F) (tx := tx) (pg := pg) (le := le) (ln := ln) (tk := tk) (bd := bd) (vi := vi) (va := va) (vl := vl) (vj := vj) (la := la) (me := me) t0 t1 ht).2.2.2.2 (I l) (I q) (I w)
    have e2 := m_runE (F := F) (l := I l) (q := I q) (w := I w) (tx := tx) (pg := pg) (le := le) (ln := ln) (tk := tk) (bd := bd) (vi := vi) (va := va) (vl := vl) (vj := vj) (la := la) (me := me) t0 t1 ht
    exact fin_E (wq_run F 0 _ _ _ _ 632 _) e (by decide) rfl (by decide) (by omega) hA hC e2 (RI_thr r30 hR) (by rw [up_same]; rfl) frD_thr (fun _ _ => rfl)
theorem pcx_undo {n : Nat} {M : cM} (hF : 200000 ≤ F) (hn : n ≤ 600) (hI : INVn n M) (r : Int32) : Agr F n (f_L_undo F 0 r 632 M) (fun M => f_X12_undo F 570 r M) (fun v => if v = 0 then 0 else 1) := by
  obtain ⟨S, hS, D, nl, CM, SS, EL, RF, PN, Ls, SD, rn, RL, RC, AK, tx, pg, le, ln, tk, bd, vi, va, vl, vj, la, me, rfl, hA, hC, hR⟩ := hI
  have n8 := hA.1
  have r30 := hA.2.1
  have hlc := hC.2.2.1.1
  have hrc := hC.2.2.1.2.1
  have hml := hR.2.1.1
  have hmr := hR.2.1.2.1
  have hE : ∀ T, T < 3 → (EL T).length ≤ 4 := fun T hT => (hA.2.2.2.2.2.2.2 T hT).1
  have hnow : ∀ a, a < nl → txt (tx (aLine_now (eScript_lines a))) (nowT EL RL RC (CM a) (SS a)) := fun a ha => ((hC.2.2.2.1 a (by omega)).1 ha).2
  have hlrn : ∀ T, T < 3 → lrn (le (aTask_learnt (eScript_tasks T))) (pg (aLearnt_first (aTask_learnt (eScript_tasks T)))) (pg (aLearnt_second (aTask_learnt (eScript_tasks T)))) (Ls T) := fun T hT => (hC.2.2.2.2.1 T hT).2.2.2.2.2.1
  obtain ⟨r, rfl, r0, r1⟩ := I_ex r
  by_cases c : 0 ≤ r ∧ r < rn
  · obtain ⟨a, rfl⟩ : ∃ a : Nat, r = a := ⟨r.toNat, by omega⟩
    have ha : a < rn := by omega
    obtain ⟨tx', va', e, h1, h2⟩ := x_undoK (F := F) hF ha hA hC
    obtain ⟨vi2, va2, e2, k1, k2, k3⟩ := m_undoK (F := F) (r := a) (tx := tx') (pg := pg) (le := le) (ln := ln) (tk := tk) (bd := bd) (vi := vi) (va := va') (vl := up vl 632 (vp_updL (vl 632) 0 (if (!(RC a)) = true then 1 else 0))) (vj := vj) (la := la) (me := me) ha hA (RI_C r30 h2 hR)
    exact fin_0 ((wq_undo F 0 _ 632 _).trans (wjB e)) (show S ≤ 43 * (n + 1) by omega) hA h1 e2 k1 k2 k3 (fun _ _ => rfl) (by cases RC a <;> rfl)
  · have e := x_undoE (F := F) (tx := tx) (pg := pg) (le := le) (ln := ln) (tk := tk) (bd := bd) (vi := vi) (va := va) (vl := vl) (vj := vj) (la := la) (me := me) r0 r1 hrc r30 c
    have e2 := m_undoE (F := F) (tx := tx) (pg := pg) (le := le) (ln := ln) (tk := tk) (bd := bd) (vi := vi) (va := va) (vl := vl) (vj := vj) (la := la) (me := me) r0 r1 hmr r30 c
    exact fin_E (wq_undo F 0 _ 632 _) e (by decide) rfl (by decide) (by omega) hA hC e2 (RI_thr r30 hR) (by rw [up_same]; rfl) frD_thr (fun _ _ => rfl)
theorem pcx_stand {n : Nat} {M : cM} (hF : 200000 ≤ F) (hn : n ≤ 600) (hI : INVn n M) (t e : Int32) (he : e = 0 ∨ e = 1) : Agr F n (f_L_stand F 0 t e 632 M) (fun M => f_X12_stand F 570 t e M) (fun v => if v = 0 then 0 else 1) := by
  obtain ⟨S, hS, D, nl, CM, SS, EL, RF, PN, Ls, SD, rn, RL, RC, AK, tx, pg, le, ln, tk, bd, vi, va, vl, vj, la, me, rfl, hA, hC, hR⟩ := hI
  have n8 := hA.1
  have r30 := hA.2.1
  have hlc := hC.2.2.1.1
  have hrc := hC.2.2.1.2.1
  have hml := hR.2.1.1
  have hmr := hR.2.1.2.1
  have hE : ∀ T, T < 3 → (EL T).length ≤ 4 := fun T hT => (hA.2.2.2.2.2.2.2 T hT).1
  have hnow : ∀ a, a < nl → txt (tx (aLine_now (eScript_lines a))) (nowT EL RL RC (CM a) (SS a)) := fun a ha => ((hC.2.2.2.1 a (by omega)).1 ha).2
  have hlrn : ∀ T, T < 3 → lrn (le (aTask_learnt (eScript_tasks T))) (pg (aLearnt_first (aTask_learnt (eScript_tasks T)))) (pg (aLearnt_second (aTask_learnt (eScript_tasks T)))) (Ls T) := fun T hT => (hC.2.2.2.2.1 T hT).2.2.2.2.2.1
  obtain ⟨t, rfl, t0, t1⟩ := I_ex t
  obtain ⟨b, rfl⟩ : ∃ b : Bool, e = I ((b.toNat : Nat) : Int) := by
    rcases he with rfl | rfl
    · exact ⟨false, rfl⟩
    · exact ⟨true, rfl⟩
  by_cases c : 0 ≤ t ∧ t < 3
  · obtain ⟨T, rfl⟩ : ∃ T : Nat, t = T := ⟨t.toNat, by omega⟩
    have hT : T < 3 := by omega
    by_cases h : b = true ∧ Ls T = none
    · obtain ⟨rfl, h⟩ := h
      have hL := lrn_any (hlrn T hT)
      rw [if_pos h] at hL
      have e := x_standE2 (F := F) (tx := tx) (pg := pg) (le := le) (ln := ln) (tk := tk) (bd := bd) (vi := vi) (va := va) (vl := vl) (vj := vj) (la := la) (me := me) hT hL
      have e2 := m_standE2 (F := F) (T := T) (tx := tx) (pg := pg) (le := le) (ln := ln) (tk := tk) (bd := bd) (vi := vi) (va := va) (vl := vl) (vj := vj) (la := la) (me := me) hT h hR
      exact fin_E (wq_stand F 0 _ _ 632 _) e (by decide) rfl (by decide) (by omega) hA hC e2 (RI_thr r30 hR) (by rw [up_same]; rfl) frD_thr (fun _ _ => rfl)
    · have h' : b = true → Ls T ≠ none := fun z y => h ⟨z, y⟩
      have e := x_standK (F := F) (b := b) (sd := SD T) (tx := tx) (pg := pg) (le := le) (ln := ln) (tk := tk) (bd := bd) (vi := vi) (va := va) (vl := vl) (vj := vj) (la := la) (me := me) hT (hlrn T hT) (hC.2.2.2.2.1 T hT).2.2.2.2.1 h'
      have h1 := c_stand (b := b) hT hC
      obtain ⟨vi2, va2, e2, k1, k2, k3⟩ := m_standK (F := F) (T := T) (b := b) (tx := tx) (pg := pg) (le := le) (ln := ln) (tk := up tk (eScript_tasks T) (tkS (tk (eScript_tasks T)) b)) (bd := bd) (vi := vi) (va := va) (vl := up vl 632 (vp_updL (vl 632) 0 (if SD T = true then 1 else 0))) (vj := vj) (la := la) (me := me) hT h' hA hR
      exact fin_0 ((wq_stand F 0 _ _ 632 _).trans (wjB e)) (show S ≤ 43 * (n + 1) by omega) (AC_pin h' hA.2.2.1 hA) h1 e2 k1 k2 k3 (fun _ _ => rfl) (by cases SD T <;> rfl)
  · have e := x_standE (F := F) (b := I ((b.toNat : Nat) : Int)) (tx := tx) (pg := pg) (le := le) (ln := ln) (tk := tk) (bd := bd) (vi := vi) (va := va) (vl := vl) (vj := vj) (la := la) (me := me) t0 t1 c
    have e2 := m_standE (F := F) (b := I ((b.toNat : Nat) : Int)) (tx := tx) (pg := pg) (le := le) (ln := ln) (tk := tk) (bd := bd) (vi := vi) (va := va) (vl := vl) (vj := vj) (la := la) (me := me) t0 t1 c
    exact fin_E (wq_stand F 0 _ _ 632 _) e (by decide) rfl (by decide) (by omega) hA hC e2 (RI_thr r30 hR) (by rw [up_same]; rfl) frD_thr (fun _ _ => rfl)
theorem pcx_runs {n : Nat} {M : cM} (hI : INVn n M) : ∃ v M1 M2, f_X11_runs F 0 M = some (v, M1) ∧ f_X12_runs F 570 M1 = some (v, M2) ∧ INVn (n + 1) M2 := by
  obtain ⟨S, hS, D, nl, CM, SS, EL, RF, PN, Ls, SD, rn, RL, RC, AK, tx, pg, le, ln, tk, bd, vi, va, vl, vj, la, me, rfl, hA, hC, hR⟩ := hI
  have n8 := hA.1
  have r30 := hA.2.1
  have hlc := hC.2.2.1.1
  have hrc := hC.2.2.1.2.1
  have hml := hR.2.1.1
  have hmr := hR.2.1.2.1
  have hE : ∀ T, T < 3 → (EL T).length ≤ 4 := fun T hT => (hA.2.2.2.2.2.2.2 T hT).1
  have hnow : ∀ a, a < nl → txt (tx (aLine_now (eScript_lines a))) (nowT EL RL RC (CM a) (SS a)) := fun a ha => ((hC.2.2.2.1 a (by omega)).1 ha).2
  have hlrn : ∀ T, T < 3 → lrn (le (aTask_learnt (eScript_tasks T))) (pg (aLearnt_first (aTask_learnt (eScript_tasks T)))) (pg (aLearnt_second (aTask_learnt (eScript_tasks T)))) (Ls T) := fun T hT => (hC.2.2.2.2.1 T hT).2.2.2.2.2.1
  have e := x_runs (F := F) (tx := tx) (pg := pg) (le := le) (ln := ln) (tk := tk) (bd := bd) (vi := vi) (va := va) (vl := vl) (vj := vj) (la := la) (me := me)
  have e2 := m_runs (F := F) (tx := tx) (pg := pg) (le := le) (ln := ln) (tk := tk) (bd := bd) (vi := vi) (va := va) (vl := vl) (vj := vj) (la := la) (me := me)
  rw [hrc] at e
  rw [hmr] at e2
  refine ⟨_, _, _, e, e2, S, by omega, D, nl, CM, SS, EL, RF, PN, Ls, SD, rn, RL, RC, AK, tx, pg, le, ln, tk, bd, _, va, vl, vj, la, me, rfl, hA, CI_vi (fun k hk => up_ne (by omega)) (fun _ _ => rfl) (fun _ _ => rfl) hC, RI_thr r30 hR⟩
theorem pcx_asked {n : Nat} {M : cM} (hI : INVn n M) : ∃ v M1 M2, f_X11_asked F 0 M = some (v, M1) ∧ f_X12_asked F 570 M1 = some (v, M2) ∧ INVn (n + 1) M2 := by
  obtain ⟨S, hS, D, nl, CM, SS, EL, RF, PN, Ls, SD, rn, RL, RC, AK, tx, pg, le, ln, tk, bd, vi, va, vl, vj, la, me, rfl, hA, hC, hR⟩ := hI
  have n8 := hA.1
  have r30 := hA.2.1
  have hlc := hC.2.2.1.1
  have hrc := hC.2.2.1.2.1
  have hml := hR.2.1.1
  have hmr := hR.2.1.2.1
  have hE : ∀ T, T < 3 → (EL T).length ≤ 4 := fun T hT => (hA.2.2.2.2.2.2.2 T hT).1
  have hnow : ∀ a, a < nl → txt (tx (aLine_now (eScript_lines a))) (nowT EL RL RC (CM a) (SS a)) := fun a ha => ((hC.2.2.2.1 a (by omega)).1 ha).2
  have hlrn : ∀ T, T < 3 → lrn (le (aTask_learnt (eScript_tasks T))) (pg (aLearnt_first (aTask_learnt (eScript_tasks T)))) (pg (aLearnt_second (aTask_learnt (eScript_tasks T)))) (Ls T) := fun T hT => (hC.2.2.2.2.1 T hT).2.2.2.2.2.1
  have e := x_asked (F := F) (tx := tx) (pg := pg) (le := le) (ln := ln) (tk := tk) (bd := bd) (vi := vi) (va := va) (vl := vl) (vj := vj) (la := la) (me := me)
  have e2 := m_asked (F := F) (tx := tx) (pg := pg) (le := le) (ln := ln) (tk := tk) (bd := bd) (vi := up vi 909 (I 0)) (va := va) (vl := vl) (vj := vj) (la := la) (me := me)
  rw [hC.2.2.1.2.2] at e
  rw [up_ne (by decide), hR.2.1.2.2] at e2
  have hC1 : CIn S D nl CM SS EL RF PN Ls SD rn RL RC (0) tx pg le ln tk bd (up vi 909 (I 0)) va vl vj la me := c_asked (n := 0) hC
  have hR1 : RI D nl CM SS EL RF PN Ls SD rn RL RC AK (up vi 909 (I 0)) va := RI_C r30 ⟨fun k hk => up_ne (by omega), fun _ _ => rfl⟩ hR
  have hR2 : RI D nl CM SS EL RF PN Ls SD rn RL RC (0) (up (up (up vi 909 (I 0)) 1000 (I 0)) 1030 (I 0)) va := RI_ask (n := 0) (RI_thr (x := I 0) r30 hR1)
  refine ⟨_, _, _, e, e2, S, by omega, D, nl, CM, SS, EL, RF, PN, Ls, SD, rn, RL, RC, 0, tx, pg, le, ln, tk, bd, _, va, vl, vj, la, me, rfl, AC_ak (by decide) hA, CI_vi (fun k hk => by rw [up_ne (by omega), up_ne (by omega)]) (fun _ _ => rfl) (fun _ _ => rfl) hC1, hR2⟩
end
