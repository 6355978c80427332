/-! THE CLASS'S INVARIANT IS KEPT: TYPE, SHOW, REFUSE, PIN, STAND, ASKED -/
theorem onL_app {E : List (Tx × Tx × Nat)} {x : Tx × Tx × Nat} {l : Nat} : onL (E ++ [x]) l = (onL E l || decide (x.2.2 = l)) := by
  unfold onL
  rw [List.any_append]
  simp
theorem cnE_up {EL : Nat → List (Tx × Tx × Nat)} {T l : Nat} {x : Tx × Tx × Nat} (hT : T < 3) : cnE (up EL T (EL T ++ [x])) l = cnE EL l + (if onL (EL T) l = false ∧ x.2.2 = l then 1 else 0) := by
  have h : (onL (EL T ++ [x]) l).toNat = (onL (EL T) l).toNat + (if onL (EL T) l = false ∧ x.2.2 = l then 1 else 0) := by
    rw [onL_app]
    by_cases q : x.2.2 = l
    · cases onL (EL T) l <;> simp [q]
    · cases onL (EL T) l <;> simp [q]
  unfold cnE
  rcases (show T = 0 ∨ T = 1 ∨ T = 2 by omega) with r | r | r
  · subst r
    rw [up_same, up_ne (by decide), up_ne (by decide), h]
    omega
  · subst r
    rw [up_same, up_ne (by decide), up_ne (by decide), h]
    omega
  · subst r
    rw [up_same, up_ne (by decide), up_ne (by decide), h]
    omega
theorem len_up {EL : Nat → List (Tx × Tx × Nat)} {T : Nat} {x : Tx × Tx × Nat} (T' : Nat) : (EL T').length ≤ (up EL T (EL T ++ [x]) T').length := by
  by_cases q : T' = T
  · rw [q, up_same, List.length_append]
    omega
  · rw [up_ne q]
    exact Nat.le_refl _
theorem gx_up {EL : Nat → List (Tx × Tx × Nat)} {T : Nat} {x : Tx × Tx × Nat} {T' e : Nat} (h : e < (EL T').length) : gx (up EL T (EL T ++ [x]) T') e = gx (EL T') e := by
  by_cases q : T' = T
  · rw [q] at h ⊢
    rw [up_same, gx_app h]
  · rw [up_ne q]
theorem AC_show {nl : Nat} {SS : Nat → List Int} {EL : Nat → List (Tx × Tx × Nat)} {Ls : Nat → Le} {SD : Nat → Bool} {rn : Nat} {RL : Nat → Le} {AK T l : Nat} {s D : Tx} {k : Int} (hk : k = -1 - ((4 * T + (EL T).length : Nat) : Int)) (hT : T < 3) (hl : l < nl) (h4 : (EL T).length < 4) (ho : onL (EL T) l = false) (hA : AC nl SS EL Ls SD rn RL AK) : AC nl (up SS l (SS l ++ [k])) (up EL T (EL T ++ [(s, D, l)])) Ls SD rn RL AK := by
  obtain ⟨a1, a2, a3, a4, a5, a6, a7, a8⟩ := hA
  refine ⟨a1, a2, a3, fun l' hl' => ?_, fun l' hl' => ?_, a6, a7, fun T' hT' => ?_⟩
  · rw [up_ne (by omega)]
    exact a4 l' hl'
  · obtain ⟨b1, b2⟩ := a5 l' hl'
    rw [cnE_up hT]
    by_cases q : l' = l
    · subst q
      rw [up_same, if_pos ⟨ho, rfl⟩, List.length_append, List.length_singleton]
      refine ⟨by omega, fun k' hk' => ?_⟩
      rcases List.mem_append.mp hk' with hk' | hk'
      · exact okK_mono (b2 k' hk') (Nat.le_refl _) (fun T' _ => len_up T')
      · rw [List.mem_singleton.mp hk']
        refine Or.inr ⟨by omega, T, (EL T).length, hT, h4, ?_, hk⟩
        rw [up_same, List.length_append, List.length_singleton]
        omega
    · rw [up_ne q]
      exact ⟨by omega, fun k' hk' => okK_mono (b2 k' hk') (Nat.le_refl _) (fun T' _ => len_up T')⟩
  · obtain ⟨b1, b2⟩ := a8 T' hT'
    by_cases q : T' = T
    · subst q
      rw [up_same, List.length_append, List.length_singleton]
      refine ⟨by omega, fun x hx => ?_⟩
      rcases List.mem_append.mp hx with hx | hx
      · exact b2 x hx
      · rw [List.mem_singleton.mp hx]
        exact hl
    · rw [up_ne q]
      exact ⟨b1, b2⟩
theorem gp_app {R : List (Tx × Tx)} {x : Tx × Tx} {i : Nat} (h : i < R.length) : gp (R ++ [x]) i = gp R i := by
  unfold gp
  rw [List.getD_eq_getElem?_getD, List.getD_eq_getElem?_getD, List.getElem?_append_left h]
theorem gp_app_eq {R : List (Tx × Tx)} {x : Tx × Tx} : gp (R ++ [x]) R.length = x := by
  unfold gp
  rw [List.getD_eq_getElem?_getD, List.getElem?_append_right (Nat.le_refl _), Nat.sub_self]
  rfl
theorem tkOK_draft {tx : Nat → ZText} {pg : Nat → ZProg} {le : Nat → ZLearnt} {z : ZTask} {a T : Nat} {E : List (Tx × Tx × Nat)} {R : List (Tx × Tx)} {P : Nat → Option At} {L : Le} {sd : Bool} {v : ZText} (ha : a = eScript_tasks T) (g : tkOK tx pg le z a E R P L sd) : tkOK (up tx aScript_draft v) pg le z a E R P L sd := tkOK_fr (fun x h1 h2 => up_ne (by rw [ha] at h1; unfold eScript_tasks at h1; unfold aScript_draft; omega)) (fun _ _ _ => rfl) (fun _ _ _ => rfl) g
theorem CI_draft {S : Nat} {D : Tx} {nl : Nat} {CM : Nat → Tx} {SS : Nat → List Int} {EL : Nat → List (Tx × Tx × Nat)} {RF : Nat → List (Tx × Tx)} {PN : Nat → Nat → Option At} {Ls : Nat → Le} {SD : Nat → Bool} {rn : Nat} {RL : Nat → Le} {RC : Nat → Bool} {AK : Nat} {tx : Nat → ZText} {pg : Nat → ZProg} {le : Nat → ZLearnt} {ln : Nat → ZLine} {tk : Nat → ZTask} {bd : Nat → ZBoard} {vi : Nat → Int32} {va : Nat → Nat → Int32} {vl : Nat → Nat → Int64} {vj : Int64} {la : Option Nat} {me : Nat → Option Nat} {v : ZText} {u : Tx} (hE : ∀ T, T < 3 → (EL T).length ≤ 4) (hv : txt v u) (g : CIn S D nl CM SS EL RF PN Ls SD rn RL RC AK tx pg le ln tk bd vi va vl vj la me) : CIn S (u) nl CM SS EL RF PN Ls SD rn RL RC AK (up tx aScript_draft v) pg le ln tk bd vi va vl vj la me := by
  obtain ⟨g1, g2, g3, g4, g5, g6, g7⟩ := g
  have hm : aScript_draft = 1 := rfl
  refine ⟨by rw [up_same]; exact hv, ⟨?_, ?_, ?_⟩, g3, lnOK_fr (fun a h1 h2 => up_ne (by omega)) rfl g4, fun T hT => tkOK_draft rfl (g5 T hT), g6, fiOK_fr hE (fun x h1 h2 => up_ne (by omega)) rfl rfl g7⟩
  · rw [up_ne (by decide)]
    exact g2.1
  · rw [up_ne (by decide)]
    exact g2.2.1
  · rw [up_ne (by decide)]
    exact g2.2.2
theorem c_show {S T l : Nat} {D : Tx} {nl : Nat} {CM : Nat → Tx} {SS : Nat → List Int} {EL : Nat → List (Tx × Tx × Nat)} {RF : Nat → List (Tx × Tx)} {PN : Nat → Nat → Option At} {Ls : Nat → Le} {SD : Nat → Bool} {rn : Nat} {RL : Nat → Le} {RC : Nat → Bool} {AK : Nat} {tx : Nat → ZText} {pg : Nat → ZProg} {le : Nat → ZLearnt} {ln : Nat → ZLine} {tk : Nat → ZTask} {bd : Nat → ZBoard} {vi : Nat → Int32} {va : Nat → Nat → Int32} {vl : Nat → Nat → Int64} {vj : Int64} {la : Option Nat} {me : Nat → Option Nat} {v1 v2 v3 v4 : ZText} {s : Tx} {k : Int} (hs : s = nowT EL RL RC (CM l) (SS l)) (hk : k = -1 - ((4 * T + (EL T).length : Nat) : Int)) (hT : T < 3) (hl : l < nl) (hA : AC nl SS EL Ls SD rn RL AK) (h4 : (EL T).length < 4) (ho : onL (EL T) l = false) (t1 : txt v1 s) (t2 : txt v2 D) (t3 : txt v3 D) (t4 : txt v4 []) (g : CIn S D nl CM SS EL RF PN Ls SD rn RL RC AK tx pg le ln tk bd vi va vl vj la me) : CIn S ([]) nl CM (up SS l (SS l ++ [k])) (up EL T (EL T ++ [(s, D, l)])) RF PN Ls SD rn RL RC AK (up (up (up (up tx (eTask_was (eScript_tasks T) (EL T).length) v1) (eTask_shown (eScript_tasks T) (EL T).length) v2) (aLine_now (eScript_lines l)) v3) aScript_draft v4) pg le (up ln (eScript_lines l) (upd (ln (eScript_lines l)).1 (SS l).length (I k), I (((SS l).length + 1 : Nat) : Int))) (up tk (eScript_tasks T) (tkE (tk (eScript_tasks T)) (EL T).length l)) bd vi va vl vj la me := by
  have hA2 := AC_show (s := s) (D := D) hk hT hl h4 ho hA
  obtain ⟨a1, a2, a3, a4, a5, a6, a7, a8⟩ := hA
  obtain ⟨c1, c2, c3, c4, c5, c6, c7, c8⟩ := hA2
  obtain ⟨g1, ⟨⟨m1, m1'⟩, ⟨m2, m2'⟩, m3, m3'⟩, g3, g4, g5, g6, nb, f1, f2, f3, f4, f5⟩ := g
  have aw : eTask_was (eScript_tasks T) (EL T).length = 21 + 71 * T + 12 * (EL T).length := by unfold eTask_was eScript_tasks; omega
  have ash : eTask_shown (eScript_tasks T) (EL T).length = 24 + 71 * T + 12 * (EL T).length := by unfold eTask_shown eScript_tasks; omega
  have an : aLine_now (eScript_lines l) = 226 + 8 * l := by unfold aLine_now eScript_lines; omega
  have adr1 : aScript_draft = 1 := rfl
  obtain ⟨tx4, htx⟩ : ∃ tx4, tx4 = up (up (up (up tx (eTask_was (eScript_tasks T) (EL T).length) v1) (eTask_shown (eScript_tasks T) (EL T).length) v2) (aLine_now (eScript_lines l)) v3) aScript_draft v4 := ⟨_, rfl⟩
  rw [← htx]
  rw [aw, ash, an, adr1] at htx
  have q0 : ∀ x, x ≠ 21 + 71 * T + 12 * (EL T).length → x ≠ 24 + 71 * T + 12 * (EL T).length → x ≠ 226 + 8 * l → x ≠ 1 → tx4 x = tx x := fun x b1 b2 b3 b4 => by rw [htx, up_ne b4, up_ne b3, up_ne b2, up_ne b1]
  have q1 : tx4 (21 + 71 * T + 12 * (EL T).length) = v1 := by rw [htx, up_ne (by omega), up_ne (by omega), up_ne (by omega), up_same]
  have q2 : tx4 (24 + 71 * T + 12 * (EL T).length) = v2 := by rw [htx, up_ne (by omega), up_ne (by omega), up_same]
  have q3 : tx4 (226 + 8 * l) = v3 := by rw [htx, up_ne (by omega), up_same]
  have q4 : tx4 1 = v4 := by rw [htx, up_same]
  have hnow : ∀ l', l' < nl → nowT (up EL T (EL T ++ [(s, D, l)])) RL RC (CM l') (up SS l (SS l ++ [k]) l') = if l' = l then D else nowT EL RL RC (CM l') (SS l') := fun l' hl' => by
    have hc := nowT_congr (EL := EL) (EL' := up EL T (EL T ++ [(s, D, l)])) (RL := RL) (RL' := RL) (RC := RC) (RC' := RC) (rn := rn) (fun T' e hT' he => gx_up he) (fun r _ => ⟨rfl, rfl⟩) (SS l') (CM l') (a5 l' hl').2
    by_cases q : l' = l
    · subst q
      rw [if_pos rfl, up_same, nowT_app]
      unfold stpT
      rw [if_pos (by omega), show (-1 - k).toNat / 4 = T by omega, show (-1 - k).toNat % 4 = (EL T).length by omega, up_same, gx_app_eq]
    · rw [if_neg q, up_ne q]
      exact hc
  refine ⟨by rw [adr1, q4]; exact t4, ⟨⟨m1, ?_⟩, ⟨m2, ?_⟩, m3, ?_⟩, g3, fun l' hl' => ?_, fun T' hT' => ?_, g6, nb, f1, fun T' hT' hla => ?_, fun i hi => ?_, f4, f5⟩
  · rw [q0 _ (by unfold aScript_made; omega) (by unfold aScript_made; omega) (by unfold aScript_made; omega) (by decide)]
    exact m1'
  · rw [q0 _ (by unfold aLearner_made; omega) (by unfold aLearner_made; omega) (by unfold aLearner_made; omega) (by decide)]
    exact m2'
  · rw [q0 _ (by unfold aLearner_madeFirst; omega) (by unfold aLearner_madeFirst; omega) (by unfold aLearner_madeFirst; omega) (by decide)]
    exact m3'
  · obtain ⟨b1, b2, b3, b4⟩ := g4 l' hl'
    have ac' : aLine_came (eScript_lines l') = 223 + 8 * l' := by unfold aLine_came eScript_lines; omega
    have an' : aLine_now (eScript_lines l') = 226 + 8 * l' := by unfold aLine_now eScript_lines; omega
    have h33 : ∀ l'', l'' < nl → (SS l'').length ≤ 33 := fun l'' h'' => (g4 l'' (by omega)).2.2.1
    have hlen : (SS l).length < 33 := by
      have h1 := (c5 l hl).1
      have h2 := cnE_le (EL := up EL T (EL T ++ [(s, D, l)])) (l := l)
      rw [up_same, List.length_append, List.length_singleton] at h1
      omega
    refine ⟨fun hn => ?_, ?_⟩
    · obtain ⟨d1, d2⟩ := b1 hn
      rw [ac', an']
      rw [ac'] at d1
      rw [an'] at d2
      rw [q0 (223 + 8 * l') (by omega) (by omega) (by omega) (by omega)]
      refine ⟨d1, ?_⟩
      show txt _ (nowT (up EL T (EL T ++ [(s, D, l)])) RL RC (CM l') (up SS l (SS l ++ [k]) l'))
      rw [hnow l' hn]
      by_cases q : l' = l
      · rw [if_pos q, q, q3]
        exact t3
      · rw [if_neg q, q0 (226 + 8 * l') (by omega) (by omega) (by omega) (by omega)]
        exact d2
    · by_cases q : l' = l
      · subst q
        rw [up_same, up_same, List.length_append, List.length_singleton]
        refine ⟨rfl, by omega, fun i hi => ?_⟩
        dsimp only
        by_cases q : i = (SS l').length
        · subst q
          rw [fa_app_eq, updS]
        · rw [fa_app_lt (by omega), updN q]
          exact b4 i (by omega)
      · rw [up_ne q, up_ne (by unfold eScript_lines; omega)]
        exact ⟨b2, b3, b4⟩
  · by_cases q : T' = T
    · subst q
      obtain ⟨⟨x1, x2, x3⟩, ⟨y1, y2, y3⟩, p1, p2, p3, p4, p5⟩ := g5 T' hT'
      rw [up_same, up_same]
      refine ⟨⟨?_, ?_, fun i hi => ?_⟩, ⟨y1, y2, fun i hi => ?_⟩, p1, p2, p3, p4, Or.inl rfl⟩
      · rw [List.length_append, List.length_singleton]
        rfl
      · rw [List.length_append, List.length_singleton]
        omega
      · rw [List.length_append, List.length_singleton] at hi
        have aw' : eTask_was (eScript_tasks T') i = 21 + 71 * T' + 12 * i := by unfold eTask_was eScript_tasks; omega
        have ash' : eTask_shown (eScript_tasks T') i = 24 + 71 * T' + 12 * i := by unfold eTask_shown eScript_tasks; omega
        by_cases q : i = (EL T').length
        · rw [aw', ash', q, q1, q2, gx_app_eq]
          refine ⟨t1, t2, ?_, by show l < 8; omega⟩
          show upd (tk (eScript_tasks T')).1 (EL T').length (I (l : Nat)) (EL T').length = _
          rw [updS]
        · obtain ⟨z1, z2, z3, z4⟩ := x3 i (by omega)
          rw [aw'] at z1 ⊢
          rw [ash'] at z2 ⊢
          rw [gx_app (by omega), q0 _ (by omega) (by omega) (by omega) (by omega), q0 _ (by omega) (by omega) (by omega) (by omega)]
          refine ⟨z1, z2, ?_, z4⟩
          show upd (tk (eScript_tasks T')).1 (EL T').length (I (l : Nat)) i = _
          rw [updN q]
          exact z3
      · obtain ⟨z1, z2⟩ := y3 i hi
        have aw' : eTask_refusedOf (eScript_tasks T') i = 27 + 71 * T' + 12 * i := by unfold eTask_refusedOf eScript_tasks; omega
        have ash' : eTask_refused (eScript_tasks T') i = 30 + 71 * T' + 12 * i := by unfold eTask_refused eScript_tasks; omega
        rw [aw'] at z1 ⊢
        rw [ash'] at z2 ⊢
        rw [q0 _ (by omega) (by omega) (by omega) (by omega), q0 _ (by omega) (by omega) (by omega) (by omega)]
        exact ⟨z1, z2⟩
    · rw [up_ne (by unfold eScript_tasks; omega), up_ne q]
      exact tkOK_fr (fun x h1 h2 => q0 x (by unfold eScript_tasks at h1 h2; omega) (by unfold eScript_tasks at h1 h2; omega) (by unfold eScript_tasks at h1 h2; omega) (by unfold eScript_tasks at h1 h2; omega)) (fun _ _ _ => rfl) (fun _ _ _ => rfl) (g5 T' hT')
  · obtain ⟨k1, k2⟩ := f2 T' hT' hla
    have hlen := len_up (EL := EL) (T := T) (x := (s, D, l)) T'
    have h44 := (c8 T' hT').1
    refine ⟨by omega, fun i hi => ?_⟩
    obtain ⟨w1, w2⟩ := k2 i hi
    have he : ety (up EL T (EL T ++ [(s, D, l)]) T') i = ety (EL T') i := by
      by_cases q : T' = T
      · rw [q] at k1 ⊢
        rw [up_same, ety_app (by omega)]
      · rw [up_ne q]
    rw [he]
    exact ⟨brd_fr (q0 _ (by unfold aBoard_was eStock_boards; omega) (by unfold aBoard_was eStock_boards; omega) (by unfold aBoard_was eStock_boards; omega) (by unfold aBoard_was eStock_boards; omega)) (q0 _ (by unfold aBoard_shown eStock_boards; omega) (by unfold aBoard_shown eStock_boards; omega) (by unfold aBoard_shown eStock_boards; omega) (by unfold aBoard_shown eStock_boards; omega)) w1, w2⟩
  · obtain ⟨u, hu⟩ := f3 i hi
    refine ⟨u, ?_⟩
    rw [q0 _ (by unfold aBoard_made eStock_boards; omega) (by unfold aBoard_made eStock_boards; omega) (by unfold aBoard_made eStock_boards; omega) (by unfold aBoard_made eStock_boards; omega)]
    exact hu
theorem c_refuse {S T : Nat} {D : Tx} {nl : Nat} {CM : Nat → Tx} {SS : Nat → List Int} {EL : Nat → List (Tx × Tx × Nat)} {RF : Nat → List (Tx × Tx)} {PN : Nat → Nat → Option At} {Ls : Nat → Le} {SD : Nat → Bool} {rn : Nat} {RL : Nat → Le} {RC : Nat → Bool} {AK : Nat} {tx : Nat → ZText} {pg : Nat → ZProg} {le : Nat → ZLearnt} {ln : Nat → ZLine} {tk : Nat → ZTask} {bd : Nat → ZBoard} {vi : Nat → Int32} {va : Nat → Nat → Int32} {vl : Nat → Nat → Int64} {vj : Int64} {la : Option Nat} {me : Nat → Option Nat} {v v1 v2 : ZText} {s u : Tx} (hT : T < 3) (hE : ∀ T, T < 3 → (EL T).length ≤ 4) (h4 : (RF T).length < 4) (t0 : txt v u) (t1 : txt v1 s) (t2 : txt v2 u) (g : CIn S D nl CM SS EL RF PN Ls SD rn RL RC AK tx pg le ln tk bd vi va vl vj la me) : CIn S D nl CM SS EL (up RF T (RF T ++ [(s, u)])) PN Ls SD rn RL RC AK (up (up (up tx aScript_made v) (eTask_refusedOf (eScript_tasks T) (RF T).length) v1) (eTask_refused (eScript_tasks T) (RF T).length) v2) pg le ln (up tk (eScript_tasks T) (tkR (tk (eScript_tasks T)) (RF T).length)) bd vi va vl vj la me := by
  obtain ⟨g1, ⟨⟨m1, m1'⟩, ⟨m2, m2'⟩, m3, m3'⟩, g3, g4, g5, g6, g7⟩ := g
  have aw : eTask_refusedOf (eScript_tasks T) (RF T).length = 27 + 71 * T + 12 * (RF T).length := by unfold eTask_refusedOf eScript_tasks; omega
  have ash : eTask_refused (eScript_tasks T) (RF T).length = 30 + 71 * T + 12 * (RF T).length := by unfold eTask_refused eScript_tasks; omega
  have an : aScript_made = 4 := rfl
  obtain ⟨tx4, htx⟩ : ∃ tx4, tx4 = up (up (up tx aScript_made v) (eTask_refusedOf (eScript_tasks T) (RF T).length) v1) (eTask_refused (eScript_tasks T) (RF T).length) v2 := ⟨_, rfl⟩
  rw [← htx]
  rw [aw, ash, an] at htx
  have q0 : ∀ x, x ≠ 27 + 71 * T + 12 * (RF T).length → x ≠ 30 + 71 * T + 12 * (RF T).length → x ≠ 4 → tx4 x = tx x := fun x b1 b2 b3 => by rw [htx, up_ne b2, up_ne b1, up_ne b3]
  have q1 : tx4 (27 + 71 * T + 12 * (RF T).length) = v1 := by rw [htx, up_ne (by omega), up_same]
  have q2 : tx4 (30 + 71 * T + 12 * (RF T).length) = v2 := by rw [htx, up_same]
  have q3 : tx4 4 = v := by rw [htx, up_ne (by omega), up_ne (by omega), up_same]
  refine ⟨?_, ⟨⟨u, by rw [an, q3]; exact t0⟩, ⟨m2, ?_⟩, m3, ?_⟩, g3, lnOK_fr (fun x h1 h2 => q0 x (by omega) (by omega) (by omega)) rfl g4, fun T' hT' => ?_, g6, fiOK_fr hE (fun x h1 h2 => q0 x (by omega) (by omega) (by omega)) rfl rfl g7⟩
  · rw [q0 _ (by unfold aScript_draft; omega) (by unfold aScript_draft; omega) (by decide)]
    exact g1
  · rw [q0 _ (by unfold aLearner_made; omega) (by unfold aLearner_made; omega) (by decide)]
    exact m2'
  · rw [q0 _ (by unfold aLearner_madeFirst; omega) (by unfold aLearner_madeFirst; omega) (by decide)]
    exact m3'
  · by_cases q : T' = T
    · subst q
      obtain ⟨⟨x1, x2, x3⟩, ⟨y1, y2, y3⟩, p1, p2, p3, p4, p5⟩ := g5 T' hT'
      rw [up_same, up_same]
      refine ⟨⟨x1, x2, fun i hi => ?_⟩, ⟨?_, ?_, fun i hi => ?_⟩, p1, p2, p3, p4, p5⟩
      · obtain ⟨z1, z2, z3, z4⟩ := x3 i hi
        have aw' : eTask_was (eScript_tasks T') i = 21 + 71 * T' + 12 * i := by unfold eTask_was eScript_tasks; omega
        have ash' : eTask_shown (eScript_tasks T') i = 24 + 71 * T' + 12 * i := by unfold eTask_shown eScript_tasks; omega
        rw [aw'] at z1 ⊢
        rw [ash'] at z2 ⊢
        rw [q0 _ (by omega) (by omega) (by omega), q0 _ (by omega) (by omega) (by omega)]
        exact ⟨z1, z2, z3, z4⟩
      · rw [List.length_append, List.length_singleton]
        rfl
      · rw [List.length_append, List.length_singleton]
        omega
      · rw [List.length_append, List.length_singleton] at hi
        have aw' : eTask_refusedOf (eScript_tasks T') i = 27 + 71 * T' + 12 * i := by unfold eTask_refusedOf eScript_tasks; omega
        have ash' : eTask_refused (eScript_tasks T') i = 30 + 71 * T' + 12 * i := by unfold eTask_refused eScript_tasks; omega
        by_cases q : i = (RF T').length
        · rw [aw', ash', q, q1, q2, gp_app_eq]
          exact ⟨t1, t2⟩
        · obtain ⟨z1, z2⟩ := y3 i (by omega)
          rw [aw'] at z1 ⊢
          rw [ash'] at z2 ⊢
          rw [gp_app (by omega), q0 _ (by omega) (by omega) (by omega), q0 _ (by omega) (by omega) (by omega)]
          exact ⟨z1, z2⟩
    · rw [up_ne (by unfold eScript_tasks; omega), up_ne q]
      exact tkOK_fr (fun x h1 h2 => q0 x (by unfold eScript_tasks at h1 h2; omega) (by unfold eScript_tasks at h1 h2; omega) (by unfold eScript_tasks at h1 h2; omega)) (fun _ _ _ => rfl) (fun _ _ _ => rfl) (g5 T' hT')
/-- only tasks' own cells have changed -/
theorem CI_tk {S T : Nat} {D : Tx} {nl : Nat} {CM : Nat → Tx} {SS : Nat → List Int} {EL : Nat → List (Tx × Tx × Nat)} {RF : Nat → List (Tx × Tx)} {PN : Nat → Nat → Option At} {Ls : Nat → Le} {SD : Nat → Bool} {rn : Nat} {RL : Nat → Le} {RC : Nat → Bool} {AK : Nat} {tx : Nat → ZText} {pg : Nat → ZProg} {le : Nat → ZLearnt} {ln : Nat → ZLine} {tk : Nat → ZTask} {bd : Nat → ZBoard} {vi : Nat → Int32} {va : Nat → Nat → Int32} {vl : Nat → Nat → Int64} {vj : Int64} {la : Option Nat} {me : Nat → Option Nat} {z : ZTask} {P : Nat → Option At} {sd : Bool} (hT : T < 3) (h : tkOK tx pg le z (eScript_tasks T) (EL T) (RF T) P (Ls T) sd) (g : CIn S D nl CM SS EL RF PN Ls SD rn RL RC AK tx pg le ln tk bd vi va vl vj la me) : CIn S D nl CM SS EL RF (up PN T P) Ls (up SD T sd) rn RL RC AK tx pg le ln (up tk (eScript_tasks T) z) bd vi va vl vj la me := by
  obtain ⟨g1, g2, g3, g4, g5, g6, g7⟩ := g
  refine ⟨g1, g2, g3, g4, fun T' hT' => ?_, g6, g7⟩
  by_cases q : T' = T
  · subst q
    rw [up_same, up_same, up_same]
    exact h
  · rw [up_ne q, up_ne q, up_ne (by unfold eScript_tasks; omega)]
    exact g5 T' hT'
theorem c_pin {S T p : Nat} {D : Tx} {nl : Nat} {CM : Nat → Tx} {SS : Nat → List Int} {EL : Nat → List (Tx × Tx × Nat)} {RF : Nat → List (Tx × Tx)} {PN : Nat → Nat → Option At} {Ls : Nat → Le} {SD : Nat → Bool} {rn : Nat} {RL : Nat → Le} {RC : Nat → Bool} {AK : Nat} {tx : Nat → ZText} {pg : Nat → ZProg} {le : Nat → ZLearnt} {ln : Nat → ZLine} {tk : Nat → ZTask} {bd : Nat → ZBoard} {vi : Nat → Int32} {va : Nat → Nat → Int32} {vl : Nat → Nat → Int64} {vj : Int64} {la : Option Nat} {me : Nat → Option Nat} {v : ZText} {u : Tx} {o : Option At} (hE : ∀ T, T < 3 → (EL T).length ≤ 4) (hT : T < 3) (ho : ∀ a, o = some a → okA a) (hv : txt v u) (g : CIn S D nl CM SS EL RF PN Ls SD rn RL RC AK tx pg le ln tk bd vi va vl vj la me) : CIn S (u) nl CM SS EL RF (up PN T (up (PN T) p o)) Ls SD rn RL RC AK (up tx aScript_draft v) pg le ln (up tk (eScript_tasks T) (tkP (tk (eScript_tasks T)) p (pinI (fun _ => o) 0))) bd vi va vl vj la me := by
  obtain ⟨x1, x2, p1, p2, p3, p4, p5⟩ := g.2.2.2.2.1 T hT
  have h := CI_tk (z := tkP (tk (eScript_tasks T)) p (pinI (fun _ => o) 0)) (P := up (PN T) p o) (sd := SD T) hT ⟨x1, x2, fun k hk => by
    rw [pinI_up]
    unfold tkP upd
    dsimp only
    by_cases q : k = p
    · rw [if_pos q, if_pos q]
    · rw [if_neg q, if_neg q]
      exact p1 k hk, pnOk_up p2 ho, p3, p4, Or.inl rfl⟩ g
  rw [up_self] at h
  exact CI_draft hE hv h
theorem AC_pin {nl : Nat} {SS : Nat → List Int} {EL : Nat → List (Tx × Tx × Nat)} {Ls : Nat → Le} {SD : Nat → Bool} {rn : Nat} {RL : Nat → Le} {AK AK' T : Nat} {b : Bool} (h : b = true → Ls T ≠ none) (h2 : AK' < 256) (hA : AC nl SS EL Ls SD rn RL AK) : AC nl SS EL Ls (up SD T b) rn RL AK' := by
  obtain ⟨a1, a2, a3, a4, a5, a6, a7, a8⟩ := hA
  refine ⟨a1, a2, h2, a4, a5, a6, fun T' hT' hs => ?_, a8⟩
  by_cases q : T' = T
  · rw [q, up_same] at hs
    rw [q]
    exact h hs
  · rw [up_ne q] at hs
    exact a7 T' hT' hs
def tkS (z : ZTask) (b : Bool) : ZTask := (z.1, z.2.1, z.2.2.1, z.2.2.2.1, I ((b.toNat : Nat) : Int), z.2.2.2.2.2.1, z.2.2.2.2.2.2)
theorem c_stand {S T : Nat} {D : Tx} {nl : Nat} {CM : Nat → Tx} {SS : Nat → List Int} {EL : Nat → List (Tx × Tx × Nat)} {RF : Nat → List (Tx × Tx)} {PN : Nat → Nat → Option At} {Ls : Nat → Le} {SD : Nat → Bool} {rn : Nat} {RL : Nat → Le} {RC : Nat → Bool} {AK : Nat} {tx : Nat → ZText} {pg : Nat → ZProg} {le : Nat → ZLearnt} {ln : Nat → ZLine} {tk : Nat → ZTask} {bd : Nat → ZBoard} {vi : Nat → Int32} {va : Nat → Nat → Int32} {vl : Nat → Nat → Int64} {vj : Int64} {la : Option Nat} {me : Nat → Option Nat} {b : Bool} (hT : T < 3) (g : CIn S D nl CM SS EL RF PN Ls SD rn RL RC AK tx pg le ln tk bd vi va vl vj la me) : CIn S D nl CM SS EL RF PN Ls (up SD T b) rn RL RC AK tx pg le ln (up tk (eScript_tasks T) (tkS (tk (eScript_tasks T)) b)) bd vi va vl vj la me := by
  obtain ⟨x1, x2, p1, p2, p3, p4, p5⟩ := g.2.2.2.2.1 T hT
  have h := CI_tk (z := tkS (tk (eScript_tasks T)) b) (P := PN T) (sd := b) hT ⟨x1, x2, p1, p2, rfl, p4, p5⟩ g
  rw [up_self] at h
  exact h
theorem c_asked {S : Nat} {D : Tx} {nl : Nat} {CM : Nat → Tx} {SS : Nat → List Int} {EL : Nat → List (Tx × Tx × Nat)} {RF : Nat → List (Tx × Tx)} {PN : Nat → Nat → Option At} {Ls : Nat → Le} {SD : Nat → Bool} {rn : Nat} {RL : Nat → Le} {RC : Nat → Bool} {AK : Nat} {tx : Nat → ZText} {pg : Nat → ZProg} {le : Nat → ZLearnt} {ln : Nat → ZLine} {tk : Nat → ZTask} {bd : Nat → ZBoard} {vi : Nat → Int32} {va : Nat → Nat → Int32} {vl : Nat → Nat → Int64} {vj : Int64} {la : Option Nat} {me : Nat → Option Nat} {n : Nat} (g : CIn S D nl CM SS EL RF PN Ls SD rn RL RC AK tx pg le ln tk bd vi va vl vj la me) : CIn S D nl CM SS EL RF PN Ls SD rn RL RC (n) tx pg le ln tk bd (up vi 909 (I (n : Nat))) va vl vj la me := by
  obtain ⟨g1, g2, g3, g4, g5, g6, nb, f1, f2⟩ := g
  refine ⟨g1, g2, ⟨?_, ?_, ?_⟩, g4, g5, g6, nb, ?_, f2⟩
  · rw [up_ne (by decide)]
    exact g3.1
  · rw [up_ne (by decide)]
    exact g3.2.1
  · rw [up_same]
  · rw [up_ne (by decide)]
    exact f1
section
variable {F : Nat}
theorem x_standK {tx : Nat → ZText} {pg : Nat → ZProg} {le : Nat → ZLearnt} {ln : Nat → ZLine} {tk : Nat → ZTask} {bd : Nat → ZBoard} {vi : Nat → Int32} {va : Nat → Nat → Int32} {vl : Nat → Nat → Int64} {vj : Int64} {la : Option Nat} {me : Nat → Option Nat} {T : Nat} {b sd : Bool} {L : Le} (hT : T < 3) (hL : lrn (le (aTask_learnt (eScript_tasks T))) (pg (aLearnt_first (aTask_learnt (eScript_tasks T)))) (pg (aLearnt_second (aTask_learnt (eScript_tasks T)))) L) (hs : (tk (eScript_tasks T)).2.2.2.2.1 = I ((sd.toNat : Nat) : Int)) (h : b = true → L ≠ none) : f_X11_stand F aScript (I (T : Nat)) (I ((b.toNat : Nat) : Int)) (mk (tx, pg, le, ln, tk, bd, vi, va, vl, vj, la, me)) = some (0, I ((sd.toNat : Nat) : Int), mk (tx, pg, le, ln, (up tk (eScript_tasks T) (tkS (tk (eScript_tasks T)) b)), bd, vi, va, vl, vj, la, me)) := by
  have hK : isTask (eScript_tasks T) := is_eScript_tasks hT
  have hM := is_Task_learnt hK
  have e1 := x_nt (F := F) (tx := tx) (pg := pg) (le := le) (ln := ln) (tk := tk) (bd := bd) (vi := vi) (va := va) (vl := vl) (vj := vj) (la := la) (me := me) hT
  have h1 := lrn_any hL
  cases b
  · cases sd
    · have hs : (tk (eScript_tasks T)).2.2.2.2.1 = I ((0 : Nat) : Int) := hs
      show f_X11_stand F aScript (I (T : Nat)) (I ((0 : Nat) : Int)) (mk (tx, pg, le, ln, tk, bd, vi, va, vl, vj, la, me)) = some (0, I ((0 : Nat) : Int), _)
      simp (disch := first | assumption | omega | exact is_Script_draft | exact is_Script_made | exact is_Learner_made | exact is_Learner_madeFirst | (apply is_eScript_tasks; omega) | (apply is_eScript_lines; omega) | (apply is_eScript_ranBy; omega)) only [↓reduceIte, ↓I_n1, obs, I_0n, l_1, l_2, l_3, l_4, l_5, l_6, l_7, l_8, l_11, l_12, l_15, l_16, l_18, l_20, l_21, l_29, l_30, l_31, l_32, l_33, l_39, l_40, l_44, l_45, l_46, l_47, l_48, l_53, l_57, l_63, l_64, l_65, l_66, l_71, l_72, l_75, l_90, l_97, l_120, l_122, l_127, l_128, l_1812, l_3600, l_4000, l_252645135, l_268435456, l_858993459, l_1431655765, I_add, I_mul, I_sub, I_addN, I_mulN, I_subN, ilt_t, ilt_f, ile_t, ile_f, ieq_t, ieq_f, up_same, up_up, I_and, I_or, I_shlN, I_shrN, I_divN, I_remN, dzI, i2cI, narI, Int.toNat_natCast, true_or, or_true, false_or, or_false, true_and, and_true, false_and, and_false, not_true_eq_false, not_false_eq_true, cScript, gScript_draft, gScript_made, gScript_tasks, nScript_tasks, rScript_tasks, gScript_lines, nScript_lines, rScript_lines, gScript_ranBy, nScript_ranBy, rScript_ranBy, gScript_runCounts, nScript_runCounts, rScript_runCounts, wScript_runCounts, gScript_learner, gScript_lineCount, pScript_lineCount, gScript_runCount, pScript_runCount, gScript_askedLines, pScript_askedLines, cTask, gTask_was, nTask_was, rTask_was, gTask_shown, nTask_shown, rTask_shown, gTask_lineOf, nTask_lineOf, rTask_lineOf, wTask_lineOf, gTask_examples, pTask_examples, gTask_refusedOf, nTask_refusedOf, rTask_refusedOf, gTask_refused, nTask_refused, rTask_refused, gTask_refusals, pTask_refusals, gTask_pins, nTask_pins, rTask_pins, wTask_pins, gTask_learnt, gTask_standing, pTask_standing, gTask_best, nTask_best, rTask_best, gTask_bestCount, pTask_bestCount, gTask_isBestKnown, pTask_isBestKnown, f_X11_stand, f_X11_stand_0, b_X11_stand_0, f_X11_stand_35, b_X11_stand_35, e1, hs]
      rfl
    · have hs : (tk (eScript_tasks T)).2.2.2.2.1 = I ((1 : Nat) : Int) := hs
      show f_X11_stand F aScript (I (T : Nat)) (I ((0 : Nat) : Int)) (mk (tx, pg, le, ln, tk, bd, vi, va, vl, vj, la, me)) = some (0, I ((1 : Nat) : Int), _)
      simp (disch := first | assumption | omega | exact is_Script_draft | exact is_Script_made | exact is_Learner_made | exact is_Learner_madeFirst | (apply is_eScript_tasks; omega) | (apply is_eScript_lines; omega) | (apply is_eScript_ranBy; omega)) only [↓reduceIte, ↓I_n1, obs, I_0n, l_1, l_2, l_3, l_4, l_5, l_6, l_7, l_8, l_11, l_12, l_15, l_16, l_18, l_20, l_21, l_29, l_30, l_31, l_32, l_33, l_39, l_40, l_44, l_45, l_46, l_47, l_48, l_53, l_57, l_63, l_64, l_65, l_66, l_71, l_72, l_75, l_90, l_97, l_120, l_122, l_127, l_128, l_1812, l_3600, l_4000, l_252645135, l_268435456, l_858993459, l_1431655765, I_add, I_mul, I_sub, I_addN, I_mulN, I_subN, ilt_t, ilt_f, ile_t, ile_f, ieq_t, ieq_f, up_same, up_up, I_and, I_or, I_shlN, I_shrN, I_divN, I_remN, dzI, i2cI, narI, Int.toNat_natCast, true_or, or_true, false_or, or_false, true_and, and_true, false_and, and_false, not_true_eq_false, not_false_eq_true, cScript, gScript_draft, gScript_made, gScript_tasks, nScript_tasks, rScript_tasks, gScript_lines, nScript_lines, rScript_lines, gScript_ranBy, nScript_ranBy, rScript_ranBy, gScript_runCounts, nScript_runCounts, rScript_runCounts, wScript_runCounts, gScript_learner, gScript_lineCount, pScript_lineCount, gScript_runCount, pScript_runCount, gScript_askedLines, pScript_askedLines, cTask, gTask_was, nTask_was, rTask_was, gTask_shown, nTask_shown, rTask_shown, gTask_lineOf, nTask_lineOf, rTask_lineOf, wTask_lineOf, gTask_examples, pTask_examples, gTask_refusedOf, nTask_refusedOf, rTask_refusedOf, gTask_refused, nTask_refused, rTask_refused, gTask_refusals, pTask_refusals, gTask_pins, nTask_pins, rTask_pins, wTask_pins, gTask_learnt, gTask_standing, pTask_standing, gTask_best, nTask_best, rTask_best, gTask_bestCount, pTask_bestCount, gTask_isBestKnown, pTask_isBestKnown, f_X11_stand, f_X11_stand_0, b_X11_stand_0, f_X11_stand_35, b_X11_stand_35, e1, hs]
      rfl
  · rw [if_neg (h rfl)] at h1
    cases sd
    · have hs : (tk (eScript_tasks T)).2.2.2.2.1 = I ((0 : Nat) : Int) := hs
      show f_X11_stand F aScript (I (T : Nat)) (I ((1 : Nat) : Int)) (mk (tx, pg, le, ln, tk, bd, vi, va, vl, vj, la, me)) = some (0, I ((0 : Nat) : Int), _)
      simp (disch := first | assumption | omega | exact is_Script_draft | exact is_Script_made | exact is_Learner_made | exact is_Learner_madeFirst | (apply is_eScript_tasks; omega) | (apply is_eScript_lines; omega) | (apply is_eScript_ranBy; omega)) only [↓reduceIte, ↓I_n1, obs, I_0n, l_1, l_2, l_3, l_4, l_5, l_6, l_7, l_8, l_11, l_12, l_15, l_16, l_18, l_20, l_21, l_29, l_30, l_31, l_32, l_33, l_39, l_40, l_44, l_45, l_46, l_47, l_48, l_53, l_57, l_63, l_64, l_65, l_66, l_71, l_72, l_75, l_90, l_97, l_120, l_122, l_127, l_128, l_1812, l_3600, l_4000, l_252645135, l_268435456, l_858993459, l_1431655765, I_add, I_mul, I_sub, I_addN, I_mulN, I_subN, ilt_t, ilt_f, ile_t, ile_f, ieq_t, ieq_f, up_same, up_up, I_and, I_or, I_shlN, I_shrN, I_divN, I_remN, dzI, i2cI, narI, Int.toNat_natCast, true_or, or_true, false_or, or_false, true_and, and_true, false_and, and_false, not_true_eq_false, not_false_eq_true, cScript, gScript_draft, gScript_made, gScript_tasks, nScript_tasks, rScript_tasks, gScript_lines, nScript_lines, rScript_lines, gScript_ranBy, nScript_ranBy, rScript_ranBy, gScript_runCounts, nScript_runCounts, rScript_runCounts, wScript_runCounts, gScript_learner, gScript_lineCount, pScript_lineCount, gScript_runCount, pScript_runCount, gScript_askedLines, pScript_askedLines, cTask, gTask_was, nTask_was, rTask_was, gTask_shown, nTask_shown, rTask_shown, gTask_lineOf, nTask_lineOf, rTask_lineOf, wTask_lineOf, gTask_examples, pTask_examples, gTask_refusedOf, nTask_refusedOf, rTask_refusedOf, gTask_refused, nTask_refused, rTask_refused, gTask_refusals, pTask_refusals, gTask_pins, nTask_pins, rTask_pins, wTask_pins, gTask_learnt, gTask_standing, pTask_standing, gTask_best, nTask_best, rTask_best, gTask_bestCount, pTask_bestCount, gTask_isBestKnown, pTask_isBestKnown, cLearnt, gLearnt_first, gLearnt_second, gLearnt_any, pLearnt_any, gLearnt_parting, pLearnt_parting, f_X11_stand, f_X11_stand_0, b_X11_stand_0, f_X11_stand_35, b_X11_stand_35, e1, h1, hs]
      rfl
    · have hs : (tk (eScript_tasks T)).2.2.2.2.1 = I ((1 : Nat) : Int) := hs
      show f_X11_stand F aScript (I (T : Nat)) (I ((1 : Nat) : Int)) (mk (tx, pg, le, ln, tk, bd, vi, va, vl, vj, la, me)) = some (0, I ((1 : Nat) : Int), _)
      simp (disch := first | assumption | omega | exact is_Script_draft | exact is_Script_made | exact is_Learner_made | exact is_Learner_madeFirst | (apply is_eScript_tasks; omega) | (apply is_eScript_lines; omega) | (apply is_eScript_ranBy; omega)) only [↓reduceIte, ↓I_n1, obs, I_0n, l_1, l_2, l_3, l_4, l_5, l_6, l_7, l_8, l_11, l_12, l_15, l_16, l_18, l_20, l_21, l_29, l_30, l_31, l_32, l_33, l_39, l_40, l_44, l_45, l_46, l_47, l_48, l_53, l_57, l_63, l_64, l_65, l_66, l_71, l_72, l_75, l_90, l_97, l_120, l_122, l_127, l_128, l_1812, l_3600, l_4000, l_252645135, l_268435456, l_858993459, l_1431655765, I_add, I_mul, I_sub, I_addN, I_mulN, I_subN, ilt_t, ilt_f, ile_t, ile_f, ieq_t, ieq_f, up_same, up_up, I_and, I_or, I_shlN, I_shrN, I_divN, I_remN, dzI, i2cI, narI, Int.toNat_natCast, true_or, or_true, false_or, or_false, true_and, and_true, false_and, and_false, not_true_eq_false, not_false_eq_true, cScript, gScript_draft, gScript_made, gScript_tasks, nScript_tasks, rScript_tasks, gScript_lines, nScript_lines, rScript_lines, gScript_ranBy, nScript_ranBy, rScript_ranBy, gScript_runCounts, nScript_runCounts, rScript_runCounts, wScript_runCounts, gScript_learner, gScript_lineCount, pScript_lineCount, gScript_runCount, pScript_runCount, gScript_askedLines, pScript_askedLines, cTask, gTask_was, nTask_was, rTask_was, gTask_shown, nTask_shown, rTask_shown, gTask_lineOf, nTask_lineOf, rTask_lineOf, wTask_lineOf, gTask_examples, pTask_examples, gTask_refusedOf, nTask_refusedOf, rTask_refusedOf, gTask_refused, nTask_refused, rTask_refused, gTask_refusals, pTask_refusals, gTask_pins, nTask_pins, rTask_pins, wTask_pins, gTask_learnt, gTask_standing, pTask_standing, gTask_best, nTask_best, rTask_best, gTask_bestCount, pTask_bestCount, gTask_isBestKnown, pTask_isBestKnown, cLearnt, gLearnt_first, gLearnt_second, gLearnt_any, pLearnt_any, gLearnt_parting, pLearnt_parting, f_X11_stand, f_X11_stand_0, b_X11_stand_0, f_X11_stand_35, b_X11_stand_35, e1, h1, hs]
      rfl
theorem x_standE {tx : Nat → ZText} {pg : Nat → ZProg} {le : Nat → ZLearnt} {ln : Nat → ZLine} {tk : Nat → ZTask} {bd : Nat → ZBoard} {vi : Nat → Int32} {va : Nat → Nat → Int32} {vl : Nat → Nat → Int64} {vj : Int64} {la : Option Nat} {me : Nat → Option Nat} {t : Int} {b : Int32} (h0 : -2147483648 ≤ t) (h1 : t < 2147483648) (hT : ¬ (0 ≤ t ∧ t < 3)) : f_X11_stand F aScript (I t) b (mk (tx, pg, le, ln, tk, bd, vi, va, vl, vj, la, me)) = some (3, 0, mk (tx, pg, le, ln, tk, bd, vi, va, vl, vj, la, me)) := by
  have e1 := x_ntE (F := F) (tx := tx) (pg := pg) (le := le) (ln := ln) (tk := tk) (bd := bd) (vi := vi) (va := va) (vl := vl) (vj := vj) (la := la) (me := me) h0 h1 hT
  simp (disch := first | assumption | omega | exact is_Script_draft | exact is_Script_made | exact is_Learner_made | exact is_Learner_madeFirst | (apply is_eScript_tasks; omega) | (apply is_eScript_lines; omega) | (apply is_eScript_ranBy; omega)) only [↓reduceIte, ↓I_n1, obs, I_0n, l_1, l_2, l_3, l_4, l_5, l_6, l_7, l_8, l_11, l_12, l_15, l_16, l_18, l_20, l_21, l_29, l_30, l_31, l_32, l_33, l_39, l_40, l_44, l_45, l_46, l_47, l_48, l_53, l_57, l_63, l_64, l_65, l_66, l_71, l_72, l_75, l_90, l_97, l_120, l_122, l_127, l_128, l_1812, l_3600, l_4000, l_252645135, l_268435456, l_858993459, l_1431655765, I_add, I_mul, I_sub, I_addN, I_mulN, I_subN, ilt_t, ilt_f, ile_t, ile_f, ieq_t, ieq_f, up_same, up_up, I_and, I_or, I_shlN, I_shrN, I_divN, I_remN, dzI, i2cI, narI, Int.toNat_natCast, true_or, or_true, false_or, or_false, true_and, and_true, false_and, and_false, not_true_eq_false, not_false_eq_true, cScript, gScript_draft, gScript_made, gScript_tasks, nScript_tasks, rScript_tasks, gScript_lines, nScript_lines, rScript_lines, gScript_ranBy, nScript_ranBy, rScript_ranBy, gScript_runCounts, nScript_runCounts, rScript_runCounts, wScript_runCounts, gScript_learner, gScript_lineCount, pScript_lineCount, gScript_runCount, pScript_runCount, gScript_askedLines, pScript_askedLines, f_X11_stand, f_X11_stand_0, b_X11_stand_0, e1, kxTI, n3_0, n2_0, n1_0]
  all_goals rfl
theorem x_standE2 {tx : Nat → ZText} {pg : Nat → ZProg} {le : Nat → ZLearnt} {ln : Nat → ZLine} {tk : Nat → ZTask} {bd : Nat → ZBoard} {vi : Nat → Int32} {va : Nat → Nat → Int32} {vl : Nat → Nat → Int64} {vj : Int64} {la : Option Nat} {me : Nat → Option Nat} {T : Nat} (hT : T < 3) (hL : (le (aTask_learnt (eScript_tasks T))).1 = I ((0 : Nat) : Int)) : f_X11_stand F aScript (I (T : Nat)) (I ((1 : Nat) : Int)) (mk (tx, pg, le, ln, tk, bd, vi, va, vl, vj, la, me)) = some (2, 0, mk (tx, pg, le, ln, tk, bd, vi, va, vl, vj, la, me)) := by
  have hK : isTask (eScript_tasks T) := is_eScript_tasks hT
  have hM := is_Task_learnt hK
  have e1 := x_nt (F := F) (tx := tx) (pg := pg) (le := le) (ln := ln) (tk := tk) (bd := bd) (vi := vi) (va := va) (vl := vl) (vj := vj) (la := la) (me := me) hT
  simp (disch := first | assumption | omega | exact is_Script_draft | exact is_Script_made | exact is_Learner_made | exact is_Learner_madeFirst | (apply is_eScript_tasks; omega) | (apply is_eScript_lines; omega) | (apply is_eScript_ranBy; omega)) only [↓reduceIte, ↓I_n1, obs, I_0n, l_1, l_2, l_3, l_4, l_5, l_6, l_7, l_8, l_11, l_12, l_15, l_16, l_18, l_20, l_21, l_29, l_30, l_31, l_32, l_33, l_39, l_40, l_44, l_45, l_46, l_47, l_48, l_53, l_57, l_63, l_64, l_65, l_66, l_71, l_72, l_75, l_90, l_97, l_120, l_122, l_127, l_128, l_1812, l_3600, l_4000, l_252645135, l_268435456, l_858993459, l_1431655765, I_add, I_mul, I_sub, I_addN, I_mulN, I_subN, ilt_t, ilt_f, ile_t, ile_f, ieq_t, ieq_f, up_same, up_up, I_and, I_or, I_shlN, I_shrN, I_divN, I_remN, dzI, i2cI, narI, Int.toNat_natCast, true_or, or_true, false_or, or_false, true_and, and_true, false_and, and_false, not_true_eq_false, not_false_eq_true, cScript, gScript_draft, gScript_made, gScript_tasks, nScript_tasks, rScript_tasks, gScript_lines, nScript_lines, rScript_lines, gScript_ranBy, nScript_ranBy, rScript_ranBy, gScript_runCounts, nScript_runCounts, rScript_runCounts, wScript_runCounts, gScript_learner, gScript_lineCount, pScript_lineCount, gScript_runCount, pScript_runCount, gScript_askedLines, pScript_askedLines, cTask, gTask_was, nTask_was, rTask_was, gTask_shown, nTask_shown, rTask_shown, gTask_lineOf, nTask_lineOf, rTask_lineOf, wTask_lineOf, gTask_examples, pTask_examples, gTask_refusedOf, nTask_refusedOf, rTask_refusedOf, gTask_refused, nTask_refused, rTask_refused, gTask_refusals, pTask_refusals, gTask_pins, nTask_pins, rTask_pins, wTask_pins, gTask_learnt, gTask_standing, pTask_standing, gTask_best, nTask_best, rTask_best, gTask_bestCount, pTask_bestCount, gTask_isBestKnown, pTask_isBestKnown, cLearnt, gLearnt_first, gLearnt_second, gLearnt_any, pLearnt_any, gLearnt_parting, pLearnt_parting, f_X11_stand, f_X11_stand_0, b_X11_stand_0, e1, hL, kxTI, n3_0, n2_0, n1_0]
  all_goals rfl
end
