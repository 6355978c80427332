/-! THE CLASS: RUNS -/
def rof (on ok : Nat → Bool) (w r : Nat) : Nat → Nat → (Nat → List Int) → Nat → Nat → (Nat → List Int) × Nat × Nat
  | 0, _, SS, AK, c => (SS, AK, c)
  | n + 1, i, SS, AK, c => if on i = true then rof on ok w r n (i + 1) SS AK c else if ok i = true then rof on ok w r n (i + 1) (up SS i (SS i ++ [((r : Nat) : Int)])) AK (c + 1) else if w = 0 then (SS, AK, c) else rof on ok w r n (i + 1) SS (if w = 2 then AK ||| 1 <<< i else AK) c
def okR (EL : Nat → List (Tx × Tx × Nat)) (RL : Nat → Le) (RC : Nat → Bool) (CM : Nat → Tx) (SS : Nat → List Int) (L : Le) (j : Nat) : Bool := (mkL L (nowT EL RL RC (CM j) (SS j))).isSome
def rnF (EL : Nat → List (Tx × Tx × Nat)) (RL : Nat → Le) (RC : Nat → Bool) (CM : Nat → Tx) (SS : Nat → List Int) (Ls : Nat → Le) (AK rn T lo hi w : Nat) : (Nat → List Int) × Nat × Nat := rof (onL (EL T)) (okR EL (up RL rn (Ls T)) (up RC rn true) CM SS (Ls T)) w rn (hi + 1 - lo) lo SS AK 0
theorem rof_prop {on ok : Nat → Bool} {w r : Nat} : ∀ (n i : Nat) (SX : Nat → List Int) (AX c : Nat), i + n ≤ 8 → AX < 256 → (∀ l, (rof on ok w r n i SX AX c).1 l = SX l ∨ i ≤ l ∧ l < i + n ∧ (rof on ok w r n i SX AX c).1 l = SX l ++ [((r : Nat) : Int)]) ∧ (rof on ok w r n i SX AX c).2.1 < 256 ∧ (w ≠ 2 → (rof on ok w r n i SX AX c).2.1 = AX) ∧ (rof on ok w r n i SX AX c).2.2 ≤ c + n := by
  intro n
  induction n with
  | zero => exact fun i SX AX c h1 h2 => ⟨fun l => Or.inl rfl, h2, fun _ => rfl, Nat.le_refl _⟩
  | succ n ih =>
    intro i SX AX c h1 h2
    unfold rof
    by_cases c1 : on i = true
    · rw [if_pos c1]
      obtain ⟨a, b, d, e⟩ := ih (i + 1) SX AX c (by omega) h2
      refine ⟨fun l => ?_, b, d, by omega⟩
      rcases a l with a | ⟨a1, a2, a3⟩
      · exact Or.inl a
      · exact Or.inr ⟨by omega, by omega, a3⟩
    · rw [if_neg c1]
      by_cases c2 : ok i = true
      · rw [if_pos c2]
        obtain ⟨a, b, d, e⟩ := ih (i + 1) (up SX i (SX i ++ [((r : Nat) : Int)])) AX (c + 1) (by omega) h2
        refine ⟨fun l => ?_, b, d, by omega⟩
        by_cases q : l = i
        · subst q
          rcases a l with a | ⟨a1, a2, a3⟩
          · rw [up_same] at a
            exact Or.inr ⟨Nat.le_refl _, by omega, a⟩
          · omega
        · rcases a l with a | ⟨a1, a2, a3⟩
          · rw [up_ne q] at a
            exact Or.inl a
          · rw [up_ne q] at a3
            exact Or.inr ⟨by omega, by omega, a3⟩
      · rw [if_neg c2]
        by_cases c3 : w = 0
        · rw [if_pos c3]
          exact ⟨fun l => Or.inl rfl, h2, fun _ => rfl, Nat.le_add_right _ _⟩
        · rw [if_neg c3]
          have h3 : (if w = 2 then AX ||| 1 <<< i else AX) < 256 := by
            split
            · have : 1 <<< i < 2 ^ 8 := by
                rw [Nat.one_shiftLeft]
                exact Nat.pow_lt_pow_right (by decide) (by omega)
              exact Nat.or_lt_two_pow (n := 8) h2 this
            · exact h2
          obtain ⟨a, b, d, e⟩ := ih (i + 1) SX _ c (by omega) h3
          refine ⟨fun l => ?_, b, fun h => ?_, by omega⟩
          · rcases a l with a | ⟨a1, a2, a3⟩
            · exact Or.inl a
            · exact Or.inr ⟨by omega, by omega, a3⟩
          · rw [d h, if_neg h]
theorem AC_run {nl : Nat} {SS : Nat → List Int} {EL : Nat → List (Tx × Tx × Nat)} {Ls : Nat → Le} {SD : Nat → Bool} {rn : Nat} {RL : Nat → Le} {RC : Nat → Bool} {CM : Nat → Tx} {AK T lo hi w : Nat} (hr : rn < 30) (hi2 : hi < nl) (hL : Ls T ≠ none) (hA : AC nl SS EL Ls SD rn RL AK) (hlo : lo ≤ hi) : AC nl (rnF EL RL RC CM SS Ls AK rn T lo hi w).1 EL Ls SD (rn + 1) (up RL rn (Ls T)) (rnF EL RL RC CM SS Ls AK rn T lo hi w).2.1 := by
  obtain ⟨a1, a2, a3, a4, a5, a6, a7, a8⟩ := hA
  obtain ⟨b1, b2, -, -⟩ := rof_prop (on := onL (EL T)) (ok := okR EL (up RL rn (Ls T)) (up RC rn true) CM SS (Ls T)) (w := w) (r := rn) (hi + 1 - lo) lo SS AK 0 (by omega) a3
  refine ⟨a1, by omega, b2, fun l hl => ?_, fun l hl => ?_, fun r hr2 => ?_, a7, a8⟩
  · rcases b1 l with b | ⟨b, b', -⟩
    · exact b.trans (a4 l hl)
    · omega
  · obtain ⟨c1, c2⟩ := a5 l hl
    show ((rof _ _ w rn (hi + 1 - lo) lo SS AK 0).1 l).length ≤ _ ∧ ∀ k, k ∈ (rof _ _ w rn (hi + 1 - lo) lo SS AK 0).1 l → _
    rcases b1 l with b | ⟨-, -, b⟩
    · rw [b]
      exact ⟨by omega, fun k hk => okK_mono (c2 k hk) (Nat.le_succ _) (fun _ _ => Nat.le_refl _)⟩
    · rw [b, List.length_append, List.length_singleton]
      refine ⟨by omega, fun k hk => ?_⟩
      rcases List.mem_append.mp hk with hk | hk
      · exact okK_mono (c2 k hk) (Nat.le_succ _) (fun _ _ => Nat.le_refl _)
      · rw [List.mem_singleton.mp hk]
        exact Or.inl ⟨by omega, by omega⟩
  · by_cases q : r = rn
    · rw [q, up_same]
      exact hL
    · rw [up_ne q]
      exact a6 r (by omega)
/-- a line has one step more -/
theorem CI_step {S i : Nat} {D : Tx} {nl : Nat} {CM : Nat → Tx} {SS : Nat → List Int} {EL : Nat → List (Tx × Tx × Nat)} {RF : Nat → List (Tx × Tx)} {PN : Nat → Nat → Option At} {Ls : Nat → Le} {SD : Nat → Bool} {rn : Nat} {RL : Nat → Le} {RC : Nat → Bool} {AK : Nat} {tx : Nat → ZText} {pg : Nat → ZProg} {le : Nat → ZLearnt} {ln : Nat → ZLine} {tk : Nat → ZTask} {bd : Nat → ZBoard} {vi : Nat → Int32} {va : Nat → Nat → Int32} {vl : Nat → Nat → Int64} {vj : Int64} {la : Option Nat} {me : Nat → Option Nat} {v v3 : ZText} {u : Tx} {k : Int} (hE : ∀ T, T < 3 → (EL T).length ≤ 4) (hi : i < 8) (hlen : (SS i).length < 33) (hu : txt v u) (hv3 : txt v3 u) (hst : nowT EL RL RC (CM i) (SS i ++ [k]) = u) (g : CIn S D nl CM SS EL RF PN Ls SD rn RL RC AK tx pg le ln tk bd vi va vl vj la me) : CIn S D nl CM (up SS i (SS i ++ [k])) EL RF PN Ls SD rn RL RC AK (up (up tx aScript_made v) (aLine_now (eScript_lines i)) v3) pg le (up ln (eScript_lines i) (upd (ln (eScript_lines i)).1 (SS i).length (I k), I (((SS i).length + 1 : Nat) : Int))) tk bd vi va vl vj la me := by
  obtain ⟨g1, ⟨⟨m1, m1'⟩, ⟨m2, m2'⟩, m3, m3'⟩, g3, g4, g5, g6, g7⟩ := g
  have an : aLine_now (eScript_lines i) = 226 + 8 * i := by unfold aLine_now eScript_lines; omega
  have am : aScript_made = 4 := rfl
  obtain ⟨tx4, htx⟩ : ∃ tx4, tx4 = up (up tx aScript_made v) (aLine_now (eScript_lines i)) v3 := ⟨_, rfl⟩
  rw [← htx]
  rw [an, am] at htx
  have q0 : ∀ x, x ≠ 4 → x ≠ 226 + 8 * i → tx4 x = tx x := fun x b1 b2 => by rw [htx, up_ne b2, up_ne b1]
  have q1 : tx4 4 = v := by rw [htx, up_ne (by omega), up_same]
  have q3 : tx4 (226 + 8 * i) = v3 := by rw [htx, up_same]
  refine ⟨?_, ⟨⟨u, by rw [am, q1]; exact hu⟩, ⟨m2, ?_⟩, m3, ?_⟩, g3, fun l' hl' => ?_, fun T' hT' => ?_, g6, fiOK_fr hE (fun x h1 h2 => q0 x (by omega) (by omega)) rfl rfl g7⟩
  · rw [q0 _ (by decide) (by unfold aScript_draft; omega)]
    exact g1
  · rw [q0 _ (by decide) (by unfold aLearner_made; omega)]
    exact m2'
  · rw [q0 _ (by decide) (by unfold aLearner_madeFirst; omega)]
    exact m3'
  · obtain ⟨b1, b2, b3, b4⟩ := g4 l' hl'
    have ac' : aLine_came (eScript_lines l') = 223 + 8 * l' := by unfold aLine_came eScript_lines; omega
    have an' : aLine_now (eScript_lines l') = 226 + 8 * l' := by unfold aLine_now eScript_lines; omega
    refine ⟨fun hn => ?_, ?_⟩
    · obtain ⟨d1, d2⟩ := b1 hn
      rw [ac', an']
      rw [ac'] at d1
      rw [an'] at d2
      rw [q0 (223 + 8 * l') (by omega) (by omega)]
      refine ⟨d1, ?_⟩
      show txt _ (nowT EL RL RC (CM l') (up SS i (SS i ++ [k]) l'))
      by_cases q : l' = i
      · rw [q, up_same, q3, hst]
        exact hv3
      · rw [up_ne q, q0 (226 + 8 * l') (by omega) (by omega)]
        exact d2
    · by_cases q : l' = i
      · subst q
        rw [up_same, up_same, List.length_append, List.length_singleton]
        refine ⟨rfl, by omega, fun j hj => ?_⟩
        dsimp only
        by_cases q : j = (SS l').length
        · subst q
          rw [fa_app_eq, updS]
        · rw [fa_app_lt (by omega), updN q]
          exact b4 j (by omega)
      · rw [up_ne q, up_ne (by unfold eScript_lines; omega)]
        exact ⟨b2, b3, b4⟩
  · exact tkOK_fr (fun x h1 h2 => q0 x (by unfold eScript_tasks at h1 h2; omega) (by unfold eScript_tasks at h1 h2; omega)) (fun _ _ _ => rfl) (fun _ _ _ => rfl) (g5 T' hT')
/-- one run more -/
theorem CI_run {S T : Nat} {D : Tx} {nl : Nat} {CM : Nat → Tx} {SS : Nat → List Int} {EL : Nat → List (Tx × Tx × Nat)} {RF : Nat → List (Tx × Tx)} {PN : Nat → Nat → Option At} {Ls : Nat → Le} {SD : Nat → Bool} {rn : Nat} {RL : Nat → Le} {RC : Nat → Bool} {AK : Nat} {tx : Nat → ZText} {pg : Nat → ZProg} {le : Nat → ZLearnt} {ln : Nat → ZLine} {tk : Nat → ZTask} {bd : Nat → ZBoard} {vi : Nat → Int32} {va : Nat → Nat → Int32} {vl : Nat → Nat → Int64} {vj : Int64} {la : Option Nat} {me : Nat → Option Nat} {v1 v2 : ZProg} {w : ZLearnt} (hr : rn < 30) (hL : lrn w v1 v2 (Ls T)) (hA : AC nl SS EL Ls SD rn RL AK) (g : CIn S D nl CM SS EL RF PN Ls SD rn RL RC AK tx pg le ln tk bd vi va vl vj la me) : CIn S D nl CM SS EL RF PN Ls SD (rn + 1) (up RL rn (Ls T)) (up RC rn true) AK tx (up (up pg (aLearnt_first (eScript_ranBy rn)) v1) (aLearnt_second (eScript_ranBy rn)) v2) (up le (eScript_ranBy rn) w) ln tk bd (up vi 908 (I ((rn + 1 : Nat) : Int))) (up va 437 (upd (va 437) rn (I ((1 : Nat) : Int)))) vl vj la me := by
  obtain ⟨g1, g2, g3, g4, g5, g6, nb, f1, f2⟩ := g
  have ar : eScript_ranBy rn = 287 + 5 * rn := rfl
  have a1 : aLearnt_first (eScript_ranBy rn) = 288 + 5 * rn := by unfold aLearnt_first; omega
  have a2 : aLearnt_second (eScript_ranBy rn) = 290 + 5 * rn := by unfold aLearnt_second; omega
  have hpg : ∀ x, x ≠ 288 + 5 * rn → x ≠ 290 + 5 * rn → up (up pg (aLearnt_first (eScript_ranBy rn)) v1) (aLearnt_second (eScript_ranBy rn)) v2 x = pg x := fun x h1 h2 => by
    rw [a1, a2, up_ne h2, up_ne h1]
  refine ⟨g1, g2, ⟨?_, ?_, ?_⟩, fun l hl => ?_, fun T' hT' => ?_, fun r hr2 => ?_, nb, ?_, f2⟩
  · rw [up_ne (by decide)]
    exact g3.1
  · rw [up_same]
  · rw [up_ne (by decide)]
    exact g3.2.2
  · obtain ⟨b1, b2⟩ := g4 l hl
    refine ⟨fun hn => ?_, b2⟩
    have hc := nowT_congr (EL := EL) (EL' := EL) (RL := RL) (RL' := up RL rn (Ls T)) (RC := RC) (RC' := up RC rn true) (rn := rn) (fun T' e hT' he => rfl) (fun r hr3 => ⟨up_ne (by omega), up_ne (by omega)⟩) (SS l) (CM l) (hA.2.2.2.2.1 l hn).2
    show txt _ _ ∧ txt _ (nowT EL (up RL rn (Ls T)) (up RC rn true) (CM l) (SS l))
    rw [hc]
    exact b1 hn
  · exact tkOK_fr (fun _ _ _ => rfl) (fun x h1 h2 => hpg x (by unfold eScript_tasks at h1 h2; omega) (by unfold eScript_tasks at h1 h2; omega)) (fun x h1 h2 => up_ne (by unfold eScript_tasks at h1 h2; omega)) (g5 T' hT')
  · rw [up_same]
    by_cases q : r = rn
    · subst q
      rw [up_same, up_same, up_same, up_same, up_ne (by omega), up_same]
      exact ⟨hL, updS⟩
    · have ar' : eScript_ranBy r = 287 + 5 * r := rfl
      obtain ⟨k1, k2⟩ := g6 r (by omega)
      rw [up_ne q, up_ne q, updN q, hpg _ (by unfold aLearnt_first; omega) (by unfold aLearnt_first; omega), hpg _ (by unfold aLearnt_second; omega) (by unfold aLearnt_second; omega), up_ne (by omega)]
      exact ⟨k1, k2⟩
  · rw [up_ne (by decide)]
    exact f1
section
variable {F : Nat}
theorem x_ro55 {S T w r hi : Nat} {D : Tx} {nl : Nat} {CM : Nat → Tx} {SS : Nat → List Int} {EL : Nat → List (Tx × Tx × Nat)} {RF : Nat → List (Tx × Tx)} {PN : Nat → Nat → Option At} {Ls : Nat → Le} {SD : Nat → Bool} {rn : Nat} {RL : Nat → Le} {RC : Nat → Bool} {AK : Nat} (hF : 200000 ≤ F) (hT : T < 3) (hr : r < 30) (hw : w ≤ 2) (hhi : hi < nl) (n8 : nl ≤ 8) (hE : ∀ T, T < 3 → (EL T).length ≤ 4) (hRL : RL r = Ls T) (hRC : RC r = true) (hlen : ∀ j, j < nl → (SS j).length < 33) : ∀ (f i : Nat) (tx : Nat → ZText) (pg : Nat → ZProg) (le : Nat → ZLearnt) (ln : Nat → ZLine) (tk : Nat → ZTask) (bd : Nat → ZBoard) (vi : Nat → Int32) (va : Nat → Nat → Int32) (vl : Nat → Nat → Int64) (vj : Int64) (la : Option Nat) (me : Nat → Option Nat) (SX : Nat → List Int) (AX c : Nat), i ≤ hi + 1 → hi + 1 - i < f → c ≤ i → AX < 256 → (∀ j, i ≤ j → SX j = SS j) → CIn S D nl CM (SX) EL RF PN Ls SD rn RL RC (AX) tx pg le ln tk bd vi va vl vj la me → ∃ tx' ln' vi', f_X11_runOn_55 F f aScript (eScript_tasks T) (I (hi : Nat)) (I (w : Nat)) (I (r : Nat)) (I (c : Nat)) (I (i : Nat)) (mk (tx, pg, le, ln, tk, bd, vi, va, vl, vj, la, me)) = some (I ((rof (onL (EL T)) (okR EL RL RC CM SS (Ls T)) w r (hi + 1 - i) i SX AX c).2.2 : Nat), mk ((tx'), pg, le, (ln'), tk, bd, (vi'), va, vl, vj, la, me)) ∧ CIn S D nl CM ((rof (onL (EL T)) (okR EL RL RC CM SS (Ls T)) w r (hi + 1 - i) i SX AX c).1) EL RF PN Ls SD rn RL RC ((rof (onL (EL T)) (okR EL RL RC CM SS (Ls T)) w r (hi + 1 - i) i SX AX c).2.1) (tx') pg le (ln') tk bd (vi') va vl vj la me ∧ ∀ k, 1000 ≤ k → vi' k = vi k := by
  have hK : isTask (eScript_tasks T) := is_eScript_tasks hT
  have hM := is_Task_learnt hK
  have hV : isText aScript_made := is_Script_made
  intro f
  induction f with
  | zero => intros; omega
  | succ f ih =>
    intro i tx pg le ln tk bd vi va vl vj la me SX AX c hi2 hf hc hAX hSX g
    rw [s_X11_runOn_55]
    by_cases q : i ≤ hi
    · have hl8 : i < 8 := by omega
      have hLn : isLine (eScript_lines i) := is_eScript_lines hl8
      have hU := is_Line_now hLn
      have hg := id g
      obtain ⟨g1, g2, g3, g4, g5, g6, g7⟩ := hg
      obtain ⟨x1, x2, p1, p2, p3, p4, p5⟩ := g5 T hT
      have e1 := x_hasEx (F := F) (tx := tx) (pg := pg) (le := le) (ln := ln) (tk := tk) (bd := bd) (vi := vi) (va := va) (vl := vl) (vj := vj) (la := la) (me := me) hK hF x1 hl8
      have hon : (rof (onL (EL T)) (okR EL RL RC CM SS (Ls T)) w r (hi + 1 - i) i SX AX c) = if onL (EL T) i = true then rof (onL (EL T)) (okR EL RL RC CM SS (Ls T)) w r (hi + 1 - (i + 1)) (i + 1) SX AX c else if okR EL RL RC CM SS (Ls T) i = true then rof (onL (EL T)) (okR EL RL RC CM SS (Ls T)) w r (hi + 1 - (i + 1)) (i + 1) (up SX i (SX i ++ [((r : Nat) : Int)])) AX (c + 1) else if w = 0 then (SX, AX, c) else rof (onL (EL T)) (okR EL RL RC CM SS (Ls T)) w r (hi + 1 - (i + 1)) (i + 1) SX (if w = 2 then AX ||| 1 <<< i else AX) c := by
        rw [show hi + 1 - i = (hi + 1 - (i + 1)) + 1 by omega]
        rfl
      rw [hon]
      cases ho : onL (EL T) i
      · rw [if_neg (by decide)]
        rw [ho] at e1
        have e1 : f_X9_hasExampleOn F (eScript_tasks T) (I (i : Nat)) (mk (tx, pg, le, ln, tk, bd, vi, va, vl, vj, la, me)) = some (I ((0 : Nat) : Int), mk (tx, pg, le, ln, tk, bd, vi, va, vl, vj, la, me)) := e1
        obtain ⟨u0, hu0⟩ := g2.1
        obtain ⟨d1, d2⟩ := (g4 i hl8).1 (by omega)
        have d2 : txt (tx (aLine_now (eScript_lines i))) (nowT EL RL RC (CM i) (SX i)) := d2
        rw [hSX i (Nat.le_refl _)] at d2
        obtain ⟨v, u, r1, hv, e2, h⟩ := x_learntMakes (F := F) (tx := tx) (pg := pg) (le := le) (ln := ln) (tk := tk) (bd := bd) (vi := vi) (va := va) (vl := vl) (vj := vj) (la := la) (me := me) hM hU hV (by unfold aLine_now eScript_lines aScript_made; omega) hF p4 d2 hu0
        rcases h with ⟨h, rfl⟩ | ⟨h, rfl⟩
        · have hok : okR EL RL RC CM SS (Ls T) i = true := by
            unfold okR
            rw [h]
            rfl
          rw [if_pos hok]
          obtain ⟨n1, n2, n3⟩ := (g4 i hl8).2
          have hl33 := hlen i (by omega)
          rw [← hSX i (Nat.le_refl _)] at hl33
          obtain ⟨v3, e3, hv3⟩ := x_addStep (F := F) (l := i) (b := aScript_made) (n := (SX i).length) (tx := up tx aScript_made v) (pg := pg) (le := le) (ln := ln) (tk := tk) (bd := bd) (vi := vi) (va := va) (vl := vl) (vj := vj) (la := la) (me := me) hF hl8 hV (by decide) (s := u) (by rw [up_same]; exact hv) n1 hl33 (k := ((r : Nat) : Int))
          have g' := CI_step (k := ((r : Nat) : Int)) (v3 := v3) hE hl8 hl33 hv hv3 (by
            rw [nowT_app, hSX i (Nat.le_refl _)]
            unfold stpT
            rw [if_neg (by omega), Int.toNat_natCast, hRC, if_pos rfl, hRL, h]
            rfl) g
          obtain ⟨tx', ln', vi', e', h1, h2⟩ := ih (i + 1) (up (up tx aScript_made v) (aLine_now (eScript_lines i)) v3) pg le (up ln (eScript_lines i) (upd (ln (eScript_lines i)).1 (SX i).length (I ((r : Nat) : Int)), I (((SX i).length + 1 : Nat) : Int))) tk bd vi va vl vj la me (up SX i (SX i ++ [((r : Nat) : Int)])) AX (c + 1) (by omega) (by omega) (by omega) hAX (fun j hj => by
            rw [up_ne (by omega)]
            exact hSX j (by omega)) g'
          refine ⟨tx', ln', vi', ?_, h1, h2⟩
          rw [← e']
          simp (disch := first | assumption | omega | exact is_Script_draft | exact is_Script_made | exact is_Learner_made | exact is_Learner_madeFirst | (apply is_eScript_tasks; omega) | (apply is_eScript_lines; omega) | (apply is_eScript_ranBy; omega)) only [↓reduceIte, ↓I_n1, obs, I_0n, l_1, l_2, l_3, l_4, l_5, l_6, l_7, l_8, l_11, l_12, l_15, l_16, l_18, l_20, l_21, l_29, l_30, l_31, l_32, l_33, l_39, l_40, l_44, l_45, l_46, l_47, l_48, l_53, l_57, l_63, l_64, l_65, l_66, l_71, l_72, l_75, l_90, l_97, l_120, l_122, l_127, l_128, l_1812, l_3600, l_4000, l_252645135, l_268435456, l_858993459, l_1431655765, I_add, I_mul, I_sub, I_addN, I_mulN, I_subN, ilt_t, ilt_f, ile_t, ile_f, ieq_t, ieq_f, up_same, up_up, I_and, I_or, I_shlN, I_shrN, I_divN, I_remN, dzI, i2cI, narI, Int.toNat_natCast, true_or, or_true, false_or, or_false, true_and, and_true, false_and, and_false, not_true_eq_false, not_false_eq_true, cScript, gScript_draft, gScript_made, gScript_tasks, nScript_tasks, rScript_tasks, gScript_lines, nScript_lines, rScript_lines, gScript_ranBy, nScript_ranBy, rScript_ranBy, gScript_runCounts, nScript_runCounts, rScript_runCounts, wScript_runCounts, gScript_learner, gScript_lineCount, pScript_lineCount, gScript_runCount, pScript_runCount, gScript_askedLines, pScript_askedLines, cTask, gTask_was, nTask_was, rTask_was, gTask_shown, nTask_shown, rTask_shown, gTask_lineOf, nTask_lineOf, rTask_lineOf, wTask_lineOf, gTask_examples, pTask_examples, gTask_refusedOf, nTask_refusedOf, rTask_refusedOf, gTask_refused, nTask_refused, rTask_refused, gTask_refusals, pTask_refusals, gTask_pins, nTask_pins, rTask_pins, wTask_pins, gTask_learnt, gTask_standing, pTask_standing, gTask_best, nTask_best, rTask_best, gTask_bestCount, pTask_bestCount, gTask_isBestKnown, pTask_isBestKnown, cLine, gLine_came, gLine_now, gLine_steps, nLine_steps, rLine_steps, wLine_steps, gLine_stepCount, pLine_stepCount, b_X11_runOn_55, e1, e2, e3]
        · have hok : okR EL RL RC CM SS (Ls T) i = false := by
            unfold okR
            rw [h]
            rfl
          rw [hok, if_neg (by decide)]
          have g' := CI_made hE hv g
          by_cases w0 : w = 0
          · subst w0
            rw [if_pos rfl]
            refine ⟨_, ln, vi, ?_, g', fun _ _ => rfl⟩
            simp (disch := first | assumption | omega | exact is_Script_draft | exact is_Script_made | exact is_Learner_made | exact is_Learner_madeFirst | (apply is_eScript_tasks; omega) | (apply is_eScript_lines; omega) | (apply is_eScript_ranBy; omega)) only [↓reduceIte, ↓I_n1, obs, I_0n, l_1, l_2, l_3, l_4, l_5, l_6, l_7, l_8, l_11, l_12, l_15, l_16, l_18, l_20, l_21, l_29, l_30, l_31, l_32, l_33, l_39, l_40, l_44, l_45, l_46, l_47, l_48, l_53, l_57, l_63, l_64, l_65, l_66, l_71, l_72, l_75, l_90, l_97, l_120, l_122, l_127, l_128, l_1812, l_3600, l_4000, l_252645135, l_268435456, l_858993459, l_1431655765, I_add, I_mul, I_sub, I_addN, I_mulN, I_subN, ilt_t, ilt_f, ile_t, ile_f, ieq_t, ieq_f, up_same, up_up, I_and, I_or, I_shlN, I_shrN, I_divN, I_remN, dzI, i2cI, narI, Int.toNat_natCast, true_or, or_true, false_or, or_false, true_and, and_true, false_and, and_false, not_true_eq_false, not_false_eq_true, cScript, gScript_draft, gScript_made, gScript_tasks, nScript_tasks, rScript_tasks, gScript_lines, nScript_lines, rScript_lines, gScript_ranBy, nScript_ranBy, rScript_ranBy, gScript_runCounts, nScript_runCounts, rScript_runCounts, wScript_runCounts, gScript_learner, gScript_lineCount, pScript_lineCount, gScript_runCount, pScript_runCount, gScript_askedLines, pScript_askedLines, cTask, gTask_was, nTask_was, rTask_was, gTask_shown, nTask_shown, rTask_shown, gTask_lineOf, nTask_lineOf, rTask_lineOf, wTask_lineOf, gTask_examples, pTask_examples, gTask_refusedOf, nTask_refusedOf, rTask_refusedOf, gTask_refused, nTask_refused, rTask_refused, gTask_refusals, pTask_refusals, gTask_pins, nTask_pins, rTask_pins, wTask_pins, gTask_learnt, gTask_standing, pTask_standing, gTask_best, nTask_best, rTask_best, gTask_bestCount, pTask_bestCount, gTask_isBestKnown, pTask_isBestKnown, cLine, gLine_came, gLine_now, gLine_steps, nLine_steps, rLine_steps, wLine_steps, gLine_stepCount, pLine_stepCount, b_X11_runOn_55, e1, e2]
          · rw [if_neg w0]
            by_cases w2 : w = 2
            · subst w2
              rw [if_pos rfl]
              have hv9 := g3.2.2
              have hs9 : 1 <<< i < 256 := by
                rw [Nat.one_shiftLeft]
                exact Nat.pow_lt_pow_right (n := 8) (by decide) (by omega)
              have hA2 : AX ||| 1 <<< i < 256 := Nat.or_lt_two_pow (n := 8) hAX hs9
              have g2' := c_asked (n := AX ||| 1 <<< i) g'
              obtain ⟨tx', ln', vi', e', h1, h2⟩ := ih (i + 1) (up tx aScript_made v) pg le ln tk bd (up vi 909 (I ((AX ||| 1 <<< i : Nat) : Int))) va vl vj la me SX (AX ||| 1 <<< i) c (by omega) (by omega) (by omega) hA2 (fun j hj => hSX j (by omega)) g2'
              refine ⟨tx', ln', vi', ?_, h1, fun k hk => by rw [h2 k hk, up_ne (by omega)]⟩
              rw [← e']
              simp (disch := first | assumption | omega | exact is_Script_draft | exact is_Script_made | exact is_Learner_made | exact is_Learner_madeFirst | (apply is_eScript_tasks; omega) | (apply is_eScript_lines; omega) | (apply is_eScript_ranBy; omega)) only [↓reduceIte, ↓I_n1, obs, I_0n, l_1, l_2, l_3, l_4, l_5, l_6, l_7, l_8, l_11, l_12, l_15, l_16, l_18, l_20, l_21, l_29, l_30, l_31, l_32, l_33, l_39, l_40, l_44, l_45, l_46, l_47, l_48, l_53, l_57, l_63, l_64, l_65, l_66, l_71, l_72, l_75, l_90, l_97, l_120, l_122, l_127, l_128, l_1812, l_3600, l_4000, l_252645135, l_268435456, l_858993459, l_1431655765, I_add, I_mul, I_sub, I_addN, I_mulN, I_subN, ilt_t, ilt_f, ile_t, ile_f, ieq_t, ieq_f, up_same, up_up, I_and, I_or, I_shlN, I_shrN, I_divN, I_remN, dzI, i2cI, narI, Int.toNat_natCast, true_or, or_true, false_or, or_false, true_and, and_true, false_and, and_false, not_true_eq_false, not_false_eq_true, cScript, gScript_draft, gScript_made, gScript_tasks, nScript_tasks, rScript_tasks, gScript_lines, nScript_lines, rScript_lines, gScript_ranBy, nScript_ranBy, rScript_ranBy, gScript_runCounts, nScript_runCounts, rScript_runCounts, wScript_runCounts, gScript_learner, gScript_lineCount, pScript_lineCount, gScript_runCount, pScript_runCount, gScript_askedLines, pScript_askedLines, cTask, gTask_was, nTask_was, rTask_was, gTask_shown, nTask_shown, rTask_shown, gTask_lineOf, nTask_lineOf, rTask_lineOf, wTask_lineOf, gTask_examples, pTask_examples, gTask_refusedOf, nTask_refusedOf, rTask_refusedOf, gTask_refused, nTask_refused, rTask_refused, gTask_refusals, pTask_refusals, gTask_pins, nTask_pins, rTask_pins, wTask_pins, gTask_learnt, gTask_standing, pTask_standing, gTask_best, nTask_best, rTask_best, gTask_bestCount, pTask_bestCount, gTask_isBestKnown, pTask_isBestKnown, cLine, gLine_came, gLine_now, gLine_steps, nLine_steps, rLine_steps, wLine_steps, gLine_stepCount, pLine_stepCount, b_X11_runOn_55, e1, e2, hv9]
            · rw [if_neg w2]
              obtain ⟨tx', ln', vi', e', h1, h2⟩ := ih (i + 1) (up tx aScript_made v) pg le ln tk bd vi va vl vj la me SX AX c (by omega) (by omega) (by omega) hAX (fun j hj => hSX j (by omega)) g'
              refine ⟨tx', ln', vi', ?_, h1, h2⟩
              rw [← e']
              simp (disch := first | assumption | omega | exact is_Script_draft | exact is_Script_made | exact is_Learner_made | exact is_Learner_madeFirst | (apply is_eScript_tasks; omega) | (apply is_eScript_lines; omega) | (apply is_eScript_ranBy; omega)) only [↓reduceIte, ↓I_n1, obs, I_0n, l_1, l_2, l_3, l_4, l_5, l_6, l_7, l_8, l_11, l_12, l_15, l_16, l_18, l_20, l_21, l_29, l_30, l_31, l_32, l_33, l_39, l_40, l_44, l_45, l_46, l_47, l_48, l_53, l_57, l_63, l_64, l_65, l_66, l_71, l_72, l_75, l_90, l_97, l_120, l_122, l_127, l_128, l_1812, l_3600, l_4000, l_252645135, l_268435456, l_858993459, l_1431655765, I_add, I_mul, I_sub, I_addN, I_mulN, I_subN, ilt_t, ilt_f, ile_t, ile_f, ieq_t, ieq_f, up_same, up_up, I_and, I_or, I_shlN, I_shrN, I_divN, I_remN, dzI, i2cI, narI, Int.toNat_natCast, true_or, or_true, false_or, or_false, true_and, and_true, false_and, and_false, not_true_eq_false, not_false_eq_true, cScript, gScript_draft, gScript_made, gScript_tasks, nScript_tasks, rScript_tasks, gScript_lines, nScript_lines, rScript_lines, gScript_ranBy, nScript_ranBy, rScript_ranBy, gScript_runCounts, nScript_runCounts, rScript_runCounts, wScript_runCounts, gScript_learner, gScript_lineCount, pScript_lineCount, gScript_runCount, pScript_runCount, gScript_askedLines, pScript_askedLines, cTask, gTask_was, nTask_was, rTask_was, gTask_shown, nTask_shown, rTask_shown, gTask_lineOf, nTask_lineOf, rTask_lineOf, wTask_lineOf, gTask_examples, pTask_examples, gTask_refusedOf, nTask_refusedOf, rTask_refusedOf, gTask_refused, nTask_refused, rTask_refused, gTask_refusals, pTask_refusals, gTask_pins, nTask_pins, rTask_pins, wTask_pins, gTask_learnt, gTask_standing, pTask_standing, gTask_best, nTask_best, rTask_best, gTask_bestCount, pTask_bestCount, gTask_isBestKnown, pTask_isBestKnown, cLine, gLine_came, gLine_now, gLine_steps, nLine_steps, rLine_steps, wLine_steps, gLine_stepCount, pLine_stepCount, b_X11_runOn_55, e1, e2]
      · rw [if_pos rfl]
        rw [ho] at e1
        have e1 : f_X9_hasExampleOn F (eScript_tasks T) (I (i : Nat)) (mk (tx, pg, le, ln, tk, bd, vi, va, vl, vj, la, me)) = some (I ((1 : Nat) : Int), mk (tx, pg, le, ln, tk, bd, vi, va, vl, vj, la, me)) := e1
        obtain ⟨tx', ln', vi', e', h1, h2⟩ := ih (i + 1) tx pg le ln tk bd vi va vl vj la me SX AX c (by omega) (by omega) (by omega) hAX (fun j hj => hSX j (by omega)) g
        refine ⟨tx', ln', vi', ?_, h1, h2⟩
        rw [← e']
        simp (disch := first | assumption | omega | exact is_Script_draft | exact is_Script_made | exact is_Learner_made | exact is_Learner_madeFirst | (apply is_eScript_tasks; omega) | (apply is_eScript_lines; omega) | (apply is_eScript_ranBy; omega)) only [↓reduceIte, ↓I_n1, obs, I_0n, l_1, l_2, l_3, l_4, l_5, l_6, l_7, l_8, l_11, l_12, l_15, l_16, l_18, l_20, l_21, l_29, l_30, l_31, l_32, l_33, l_39, l_40, l_44, l_45, l_46, l_47, l_48, l_53, l_57, l_63, l_64, l_65, l_66, l_71, l_72, l_75, l_90, l_97, l_120, l_122, l_127, l_128, l_1812, l_3600, l_4000, l_252645135, l_268435456, l_858993459, l_1431655765, I_add, I_mul, I_sub, I_addN, I_mulN, I_subN, ilt_t, ilt_f, ile_t, ile_f, ieq_t, ieq_f, up_same, up_up, I_and, I_or, I_shlN, I_shrN, I_divN, I_remN, dzI, i2cI, narI, Int.toNat_natCast, true_or, or_true, false_or, or_false, true_and, and_true, false_and, and_false, not_true_eq_false, not_false_eq_true, cScript, gScript_draft, gScript_made, gScript_tasks, nScript_tasks, rScript_tasks, gScript_lines, nScript_lines, rScript_lines, gScript_ranBy, nScript_ranBy, rScript_ranBy, gScript_runCounts, nScript_runCounts, rScript_runCounts, wScript_runCounts, gScript_learner, gScript_lineCount, pScript_lineCount, gScript_runCount, pScript_runCount, gScript_askedLines, pScript_askedLines, cTask, gTask_was, nTask_was, rTask_was, gTask_shown, nTask_shown, rTask_shown, gTask_lineOf, nTask_lineOf, rTask_lineOf, wTask_lineOf, gTask_examples, pTask_examples, gTask_refusedOf, nTask_refusedOf, rTask_refusedOf, gTask_refused, nTask_refused, rTask_refused, gTask_refusals, pTask_refusals, gTask_pins, nTask_pins, rTask_pins, wTask_pins, gTask_learnt, gTask_standing, pTask_standing, gTask_best, nTask_best, rTask_best, gTask_bestCount, pTask_bestCount, gTask_isBestKnown, pTask_isBestKnown, cLine, gLine_came, gLine_now, gLine_steps, nLine_steps, rLine_steps, wLine_steps, gLine_stepCount, pLine_stepCount, b_X11_runOn_55, e1]
    · have hi3 : i = hi + 1 := by omega
      subst hi3
      rw [Nat.sub_self]
      refine ⟨tx, ln, vi, ?_, g, fun _ _ => rfl⟩
      simp (disch := first | assumption | omega | exact is_Script_draft | exact is_Script_made | exact is_Learner_made | exact is_Learner_madeFirst | (apply is_eScript_tasks; omega) | (apply is_eScript_lines; omega) | (apply is_eScript_ranBy; omega)) only [↓reduceIte, ↓I_n1, obs, I_0n, l_1, l_2, l_3, l_4, l_5, l_6, l_7, l_8, l_11, l_12, l_15, l_16, l_18, l_20, l_21, l_29, l_30, l_31, l_32, l_33, l_39, l_40, l_44, l_45, l_46, l_47, l_48, l_53, l_57, l_63, l_64, l_65, l_66, l_71, l_72, l_75, l_90, l_97, l_120, l_122, l_127, l_128, l_1812, l_3600, l_4000, l_252645135, l_268435456, l_858993459, l_1431655765, I_add, I_mul, I_sub, I_addN, I_mulN, I_subN, ilt_t, ilt_f, ile_t, ile_f, ieq_t, ieq_f, up_same, up_up, I_and, I_or, I_shlN, I_shrN, I_divN, I_remN, dzI, i2cI, narI, Int.toNat_natCast, true_or, or_true, false_or, or_false, true_and, and_true, false_and, and_false, not_true_eq_false, not_false_eq_true, cScript, gScript_draft, gScript_made, gScript_tasks, nScript_tasks, rScript_tasks, gScript_lines, nScript_lines, rScript_lines, gScript_ranBy, nScript_ranBy, rScript_ranBy, gScript_runCounts, nScript_runCounts, rScript_runCounts, wScript_runCounts, gScript_learner, gScript_lineCount, pScript_lineCount, gScript_runCount, pScript_runCount, gScript_askedLines, pScript_askedLines, b_X11_runOn_55]
      rfl
theorem x_runOn {S T w lo hi : Nat} {D : Tx} {nl : Nat} {CM : Nat → Tx} {SS : Nat → List Int} {EL : Nat → List (Tx × Tx × Nat)} {RF : Nat → List (Tx × Tx)} {PN : Nat → Nat → Option At} {Ls : Nat → Le} {SD : Nat → Bool} {rn : Nat} {RL : Nat → Le} {RC : Nat → Bool} {AK : Nat} {tx : Nat → ZText} {pg : Nat → ZProg} {le : Nat → ZLearnt} {ln : Nat → ZLine} {tk : Nat → ZTask} {bd : Nat → ZBoard} {vi : Nat → Int32} {va : Nat → Nat → Int32} {vl : Nat → Nat → Int64} {vj : Int64} {la : Option Nat} {me : Nat → Option Nat} (hF : 200000 ≤ F) (hT : T < 3) (hr : rn < 30) (hw : w ≤ 2) (hlo : lo ≤ hi) (hhi : hi < nl) (hA : AC nl SS EL Ls SD rn RL AK) (g : CIn S D nl CM SS EL RF PN Ls SD rn RL RC AK tx pg le ln tk bd vi va vl vj la me) : ∃ tx' pg' le' ln' vi' va', f_X11_runOn F aScript (eScript_tasks T) (I (lo : Nat)) (I (hi : Nat)) (I (w : Nat)) (mk (tx, pg, le, ln, tk, bd, vi, va, vl, vj, la, me)) = some (I ((rnF EL RL RC CM SS Ls AK rn T lo hi w).2.2 : Nat), mk ((tx'), (pg'), (le'), (ln'), tk, bd, (vi'), (va'), vl, vj, la, me)) ∧ CIn S D nl CM ((rnF EL RL RC CM SS Ls AK rn T lo hi w).1) EL RF PN Ls SD (rn + 1) (up RL rn (Ls T)) (up RC rn true) ((rnF EL RL RC CM SS Ls AK rn T lo hi w).2.1) (tx') (pg') (le') (ln') tk bd (vi') (va') vl vj la me ∧ frC vi vi' va va' := by
  have hK : isTask (eScript_tasks T) := is_eScript_tasks hT
  have hM := is_Task_learnt hK
  have hB : isLearnt (eScript_ranBy rn) := is_eScript_ranBy hr
  have hg := id g
  obtain ⟨g1, g2, g3, g4, g5, g6, g7⟩ := hg
  obtain ⟨x1, x2, p1, p2, p3, p4, p5⟩ := g5 T hT
  have hrc := g3.2.1
  obtain ⟨w1, v1, v2, e1, hl⟩ := x_lset (F := F) (a := eScript_ranBy rn) (b := aTask_learnt (eScript_tasks T)) (tx := tx) (pg := pg) (le := le) (ln := ln) (tk := tk) (bd := bd) (vi := up vi 908 (I ((rn + 1 : Nat) : Int))) (va := va) (vl := vl) (vj := vj) (la := la) (me := me) hB hM (by unfold eScript_ranBy aTask_learnt eScript_tasks; omega) hF p4
  have g' := CI_run (T := T) (v1 := v1) (v2 := v2) (w := w1) hr hl hA g
  have hE : ∀ T, T < 3 → (EL T).length ≤ 4 := fun T hT => (hA.2.2.2.2.2.2.2 T hT).1
  obtain ⟨tx', ln', vi', e2, h1, h2⟩ := x_ro55 (F := F) (S := S) (T := T) (w := w) (r := rn) (hi := hi) (nl := nl) (AK := AK) (CM := CM) (SS := SS) (RL := up RL rn (Ls T)) (RC := up RC rn true) hF hT hr hw hhi hA.1 hE up_same up_same (fun j hj => by
    have := (hA.2.2.2.2.1 j hj).1
    have := cnE_le (EL := EL) (l := j)
    omega) F lo tx (up (up pg (aLearnt_first (eScript_ranBy rn)) v1) (aLearnt_second (eScript_ranBy rn)) v2) (up le (eScript_ranBy rn) w1) ln tk bd (up vi 908 (I ((rn + 1 : Nat) : Int))) (up va 437 (upd (va 437) rn (I ((1 : Nat) : Int)))) vl vj la me SS AK 0 (by omega) (by have := hA.1; omega) (by omega) hA.2.2.1 (fun _ _ => rfl) g'
  refine ⟨tx', _, _, ln', vi', _, ?_, h1, ⟨fun k hk => by rw [h2 k hk, up_ne (by omega)], fun K hK => up_ne (by omega)⟩⟩
  have n1 : nrT 3 (I ((1 : Nat) : Int)) = I ((1 : Nat) : Int) := rfl
  show _ = some (I ((rof (onL (EL T)) (okR EL (up RL rn (Ls T)) (up RC rn true) CM SS (Ls T)) w rn (hi + 1 - lo) lo SS AK 0).2.2 : Nat), _)
  rw [← e2]
  simp (disch := first | assumption | omega | exact is_Script_draft | exact is_Script_made | exact is_Learner_made | exact is_Learner_madeFirst | (apply is_eScript_tasks; omega) | (apply is_eScript_lines; omega) | (apply is_eScript_ranBy; omega)) only [↓reduceIte, ↓I_n1, obs, I_0n, l_1, l_2, l_3, l_4, l_5, l_6, l_7, l_8, l_11, l_12, l_15, l_16, l_18, l_20, l_21, l_29, l_30, l_31, l_32, l_33, l_39, l_40, l_44, l_45, l_46, l_47, l_48, l_53, l_57, l_63, l_64, l_65, l_66, l_71, l_72, l_75, l_90, l_97, l_120, l_122, l_127, l_128, l_1812, l_3600, l_4000, l_252645135, l_268435456, l_858993459, l_1431655765, I_add, I_mul, I_sub, I_addN, I_mulN, I_subN, ilt_t, ilt_f, ile_t, ile_f, ieq_t, ieq_f, up_same, up_up, I_and, I_or, I_shlN, I_shrN, I_divN, I_remN, dzI, i2cI, narI, Int.toNat_natCast, true_or, or_true, false_or, or_false, true_and, and_true, false_and, and_false, not_true_eq_false, not_false_eq_true, cScript, gScript_draft, gScript_made, gScript_tasks, nScript_tasks, rScript_tasks, gScript_lines, nScript_lines, rScript_lines, gScript_ranBy, nScript_ranBy, rScript_ranBy, gScript_runCounts, nScript_runCounts, rScript_runCounts, wScript_runCounts, gScript_learner, gScript_lineCount, pScript_lineCount, gScript_runCount, pScript_runCount, gScript_askedLines, pScript_askedLines, cTask, gTask_was, nTask_was, rTask_was, gTask_shown, nTask_shown, rTask_shown, gTask_lineOf, nTask_lineOf, rTask_lineOf, wTask_lineOf, gTask_examples, pTask_examples, gTask_refusedOf, nTask_refusedOf, rTask_refusedOf, gTask_refused, nTask_refused, rTask_refused, gTask_refusals, pTask_refusals, gTask_pins, nTask_pins, rTask_pins, wTask_pins, gTask_learnt, gTask_standing, pTask_standing, gTask_best, nTask_best, rTask_best, gTask_bestCount, pTask_bestCount, gTask_isBestKnown, pTask_isBestKnown, f_X11_runOn, f_X11_runOn_0, b_X11_runOn_0, hrc, e1, n1]
theorem x_runK {S T w lo hi : Nat} {D : Tx} {nl : Nat} {CM : Nat → Tx} {SS : Nat → List Int} {EL : Nat → List (Tx × Tx × Nat)} {RF : Nat → List (Tx × Tx)} {PN : Nat → Nat → Option At} {Ls : Nat → Le} {SD : Nat → Bool} {rn : Nat} {RL : Nat → Le} {RC : Nat → Bool} {AK : Nat} {tx : Nat → ZText} {pg : Nat → ZProg} {le : Nat → ZLearnt} {ln : Nat → ZLine} {tk : Nat → ZTask} {bd : Nat → ZBoard} {vi : Nat → Int32} {va : Nat → Nat → Int32} {vl : Nat → Nat → Int64} {vj : Int64} {la : Option Nat} {me : Nat → Option Nat} (hF : 200000 ≤ F) (hT : T < 3) (hr : rn < 30) (hw : w ≤ 2) (hlo : lo ≤ hi) (hhi : hi < nl) (hL : Ls T ≠ none) (hA : AC nl SS EL Ls SD rn RL AK) (g : CIn S D nl CM SS EL RF PN Ls SD rn RL RC AK tx pg le ln tk bd vi va vl vj la me) : ∃ tx' pg' le' ln' vi' va', f_X11_run F aScript (I (T : Nat)) (I (lo : Nat)) (I (hi : Nat)) (I (w : Nat)) (mk (tx, pg, le, ln, tk, bd, vi, va, vl, vj, la, me)) = some (0, I ((rnF EL RL RC CM SS Ls AK rn T lo hi w).2.2 : Nat), mk ((tx'), (pg'), (le'), (ln'), tk, bd, (vi'), (va'), vl, vj, la, me)) ∧ CIn S D nl CM ((rnF EL RL RC CM SS Ls AK rn T lo hi w).1) EL RF PN Ls SD (rn + 1) (up RL rn (Ls T)) (up RC rn true) ((rnF EL RL RC CM SS Ls AK rn T lo hi w).2.1) (tx') (pg') (le') (ln') tk bd (vi') (va') vl vj la me ∧ frC vi vi' va va' := by
  have hK : isTask (eScript_tasks T) := is_eScript_tasks hT
  have hM := is_Task_learnt hK
  have n8 := hA.1
  have e1 := x_nt (F := F) (tx := tx) (pg := pg) (le := le) (ln := ln) (tk := tk) (bd := bd) (vi := vi) (va := va) (vl := vl) (vj := vj) (la := la) (me := me) hT
  have e2 := x_nl (F := F) (l := lo) (tx := tx) (pg := pg) (le := le) (ln := ln) (tk := tk) (bd := bd) (vi := vi) (va := va) (vl := vl) (vj := vj) (la := la) (me := me) g.2.2.1.1 n8 (by omega)
  have e3 := x_nl (F := F) (l := hi) (tx := tx) (pg := pg) (le := le) (ln := ln) (tk := tk) (bd := bd) (vi := vi) (va := va) (vl := vl) (vj := vj) (la := la) (me := me) g.2.2.1.1 n8 hhi
  have hrc := g.2.2.1.2.1
  have h1 := lrn_any (g.2.2.2.2.1 T hT).2.2.2.2.2.1
  rw [if_neg hL] at h1
  obtain ⟨tx', pg', le', ln', vi', va', e4, h⟩ := x_runOn (F := F) (lo := lo) (w := w) hF hT hr hw hlo hhi hA g
  refine ⟨tx', pg', le', ln', vi', va', ?_, h⟩
  simp (disch := first | assumption | omega | exact is_Script_draft | exact is_Script_made | exact is_Learner_made | exact is_Learner_madeFirst | (apply is_eScript_tasks; omega) | (apply is_eScript_lines; omega) | (apply is_eScript_ranBy; omega)) only [↓reduceIte, ↓I_n1, obs, I_0n, l_1, l_2, l_3, l_4, l_5, l_6, l_7, l_8, l_11, l_12, l_15, l_16, l_18, l_20, l_21, l_29, l_30, l_31, l_32, l_33, l_39, l_40, l_44, l_45, l_46, l_47, l_48, l_53, l_57, l_63, l_64, l_65, l_66, l_71, l_72, l_75, l_90, l_97, l_120, l_122, l_127, l_128, l_1812, l_3600, l_4000, l_252645135, l_268435456, l_858993459, l_1431655765, I_add, I_mul, I_sub, I_addN, I_mulN, I_subN, ilt_t, ilt_f, ile_t, ile_f, ieq_t, ieq_f, up_same, up_up, I_and, I_or, I_shlN, I_shrN, I_divN, I_remN, dzI, i2cI, narI, Int.toNat_natCast, true_or, or_true, false_or, or_false, true_and, and_true, false_and, and_false, not_true_eq_false, not_false_eq_true, cScript, gScript_draft, gScript_made, gScript_tasks, nScript_tasks, rScript_tasks, gScript_lines, nScript_lines, rScript_lines, gScript_ranBy, nScript_ranBy, rScript_ranBy, gScript_runCounts, nScript_runCounts, rScript_runCounts, wScript_runCounts, gScript_learner, gScript_lineCount, pScript_lineCount, gScript_runCount, pScript_runCount, gScript_askedLines, pScript_askedLines, cTask, gTask_was, nTask_was, rTask_was, gTask_shown, nTask_shown, rTask_shown, gTask_lineOf, nTask_lineOf, rTask_lineOf, wTask_lineOf, gTask_examples, pTask_examples, gTask_refusedOf, nTask_refusedOf, rTask_refusedOf, gTask_refused, nTask_refused, rTask_refused, gTask_refusals, pTask_refusals, gTask_pins, nTask_pins, rTask_pins, wTask_pins, gTask_learnt, gTask_standing, pTask_standing, gTask_best, nTask_best, rTask_best, gTask_bestCount, pTask_bestCount, gTask_isBestKnown, pTask_isBestKnown, cLearnt, gLearnt_first, gLearnt_second, gLearnt_any, pLearnt_any, gLearnt_parting, pLearnt_parting, b_X11_run_0, f_X11_run_0, f_X11_run, e1, e2, e3, h1, hrc, e4]
/-- the refusals of run -/
theorem x_runE2 {tx : Nat → ZText} {pg : Nat → ZProg} {le : Nat → ZLearnt} {ln : Nat → ZLine} {tk : Nat → ZTask} {bd : Nat → ZBoard} {vi : Nat → Int32} {va : Nat → Nat → Int32} {vl : Nat → Nat → Int64} {vj : Int64} {la : Option Nat} {me : Nat → Option Nat} {T n : Nat} {l q : Int} {w : Int32} (hT : T < 3) (l0 : -2147483648 ≤ l) (l1 : l < 2147483648) (q0 : -2147483648 ≤ q) (q1 : q < 2147483648) (hn : vi 907 = I (n : Nat)) (n8 : n ≤ 8) (h : ¬ (0 ≤ l ∧ l < n) ∨ ¬ (0 ≤ q ∧ q < n)) : f_X11_run F aScript (I (T : Nat)) (I l) (I q) w (mk (tx, pg, le, ln, tk, bd, vi, va, vl, vj, la, me)) = some (3, 0, mk (tx, pg, le, ln, tk, bd, vi, va, vl, vj, la, me)) := by
  have e1 := x_nt (F := F) (tx := tx) (pg := pg) (le := le) (ln := ln) (tk := tk) (bd := bd) (vi := vi) (va := va) (vl := vl) (vj := vj) (la := la) (me := me) hT
  by_cases c : 0 ≤ l ∧ l < n
  · obtain ⟨a, rfl⟩ : ∃ a : Nat, l = a := ⟨l.toNat, by omega⟩
    have e2 := x_nl (F := F) (tx := tx) (pg := pg) (le := le) (ln := ln) (tk := tk) (bd := bd) (vi := vi) (va := va) (vl := vl) (vj := vj) (la := la) (me := me) hn n8 (show a < n by omega)
    have e3 := x_nlE (F := F) (tx := tx) (pg := pg) (le := le) (ln := ln) (tk := tk) (bd := bd) (vi := vi) (va := va) (vl := vl) (vj := vj) (la := la) (me := me) q0 q1 hn n8 (by omega)
    unfold f_X11_run
    rw [if_pos cScript]
    unfold f_X11_run_0 b_X11_run_0
    rw [e1]
    show (f_X11_needLine F aScript (I (a : Nat)) (mk (tx, pg, le, ln, tk, bd, vi, va, vl, vj, la, me))).bind _ = _
    rw [e2]
    show (f_X11_needLine F aScript (I q) (mk (tx, pg, le, ln, tk, bd, vi, va, vl, vj, la, me))).bind _ = _
    rw [e3]
    rfl
  · have e2 := x_nlE (F := F) (tx := tx) (pg := pg) (le := le) (ln := ln) (tk := tk) (bd := bd) (vi := vi) (va := va) (vl := vl) (vj := vj) (la := la) (me := me) l0 l1 hn n8 c
    unfold f_X11_run
    rw [if_pos cScript]
    unfold f_X11_run_0 b_X11_run_0
    rw [e1]
    show (f_X11_needLine F aScript (I l) (mk (tx, pg, le, ln, tk, bd, vi, va, vl, vj, la, me))).bind _ = _
    rw [e2]
    rfl
theorem x_runE3 {tx : Nat → ZText} {pg : Nat → ZProg} {le : Nat → ZLearnt} {ln : Nat → ZLine} {tk : Nat → ZTask} {bd : Nat → ZBoard} {vi : Nat → Int32} {va : Nat → Nat → Int32} {vl : Nat → Nat → Int64} {vj : Int64} {la : Option Nat} {me : Nat → Option Nat} {T n l q : Nat} {w : Int} (hT : T < 3) (hl : l < n) (hq : q < n) (w0 : -2147483648 ≤ w) (w1 : w < 2147483648) (hn : vi 907 = I (n : Nat)) (n8 : n ≤ 8) (h : q < l ∨ ¬ (0 ≤ w ∧ w ≤ 2)) : f_X11_run F aScript (I (T : Nat)) (I (l : Nat)) (I (q : Nat)) (I w) (mk (tx, pg, le, ln, tk, bd, vi, va, vl, vj, la, me)) = some (1, 0, mk (tx, pg, le, ln, tk, bd, vi, va, vl, vj, la, me)) := by
  have e1 := x_nt (F := F) (tx := tx) (pg := pg) (le := le) (ln := ln) (tk := tk) (bd := bd) (vi := vi) (va := va) (vl := vl) (vj := vj) (la := la) (me := me) hT
  have e2 := x_nl (F := F) (tx := tx) (pg := pg) (le := le) (ln := ln) (tk := tk) (bd := bd) (vi := vi) (va := va) (vl := vl) (vj := vj) (la := la) (me := me) hn n8 hl
  have e3 := x_nl (F := F) (tx := tx) (pg := pg) (le := le) (ln := ln) (tk := tk) (bd := bd) (vi := vi) (va := va) (vl := vl) (vj := vj) (la := la) (me := me) hn n8 hq
  by_cases c : q < l
  · simp (disch := first | assumption | omega | exact is_Script_draft | exact is_Script_made | exact is_Learner_made | exact is_Learner_madeFirst | (apply is_eScript_tasks; omega) | (apply is_eScript_lines; omega) | (apply is_eScript_ranBy; omega)) only [↓reduceIte, ↓I_n1, obs, I_0n, l_1, l_2, l_3, l_4, l_5, l_6, l_7, l_8, l_11, l_12, l_15, l_16, l_18, l_20, l_21, l_29, l_30, l_31, l_32, l_33, l_39, l_40, l_44, l_45, l_46, l_47, l_48, l_53, l_57, l_63, l_64, l_65, l_66, l_71, l_72, l_75, l_90, l_97, l_120, l_122, l_127, l_128, l_1812, l_3600, l_4000, l_252645135, l_268435456, l_858993459, l_1431655765, I_add, I_mul, I_sub, I_addN, I_mulN, I_subN, ilt_t, ilt_f, ile_t, ile_f, ieq_t, ieq_f, up_same, up_up, I_and, I_or, I_shlN, I_shrN, I_divN, I_remN, dzI, i2cI, narI, Int.toNat_natCast, true_or, or_true, false_or, or_false, true_and, and_true, false_and, and_false, not_true_eq_false, not_false_eq_true, cScript, gScript_draft, gScript_made, gScript_tasks, nScript_tasks, rScript_tasks, gScript_lines, nScript_lines, rScript_lines, gScript_ranBy, nScript_ranBy, rScript_ranBy, gScript_runCounts, nScript_runCounts, rScript_runCounts, wScript_runCounts, gScript_learner, gScript_lineCount, pScript_lineCount, gScript_runCount, pScript_runCount, gScript_askedLines, pScript_askedLines, b_X11_run_0, f_X11_run_0, f_X11_run, e1, e2, e3, kxTI, n3_0, n2_0, n1_0]
    all_goals rfl
  · by_cases c2 : w < 0
    · simp (disch := first | assumption | omega | exact is_Script_draft | exact is_Script_made | exact is_Learner_made | exact is_Learner_madeFirst | (apply is_eScript_tasks; omega) | (apply is_eScript_lines; omega) | (apply is_eScript_ranBy; omega)) only [↓reduceIte, ↓I_n1, obs, I_0n, l_1, l_2, l_3, l_4, l_5, l_6, l_7, l_8, l_11, l_12, l_15, l_16, l_18, l_20, l_21, l_29, l_30, l_31, l_32, l_33, l_39, l_40, l_44, l_45, l_46, l_47, l_48, l_53, l_57, l_63, l_64, l_65, l_66, l_71, l_72, l_75, l_90, l_97, l_120, l_122, l_127, l_128, l_1812, l_3600, l_4000, l_252645135, l_268435456, l_858993459, l_1431655765, I_add, I_mul, I_sub, I_addN, I_mulN, I_subN, ilt_t, ilt_f, ile_t, ile_f, ieq_t, ieq_f, up_same, up_up, I_and, I_or, I_shlN, I_shrN, I_divN, I_remN, dzI, i2cI, narI, Int.toNat_natCast, true_or, or_true, false_or, or_false, true_and, and_true, false_and, and_false, not_true_eq_false, not_false_eq_true, cScript, gScript_draft, gScript_made, gScript_tasks, nScript_tasks, rScript_tasks, gScript_lines, nScript_lines, rScript_lines, gScript_ranBy, nScript_ranBy, rScript_ranBy, gScript_runCounts, nScript_runCounts, rScript_runCounts, wScript_runCounts, gScript_learner, gScript_lineCount, pScript_lineCount, gScript_runCount, pScript_runCount, gScript_askedLines, pScript_askedLines, b_X11_run_0, f_X11_run_0, f_X11_run, e1, e2, e3, kxTI, n3_0, n2_0, n1_0]
      all_goals rfl
    · simp (disch := first | assumption | omega | exact is_Script_draft | exact is_Script_made | exact is_Learner_made | exact is_Learner_madeFirst | (apply is_eScript_tasks; omega) | (apply is_eScript_lines; omega) | (apply is_eScript_ranBy; omega)) only [↓reduceIte, ↓I_n1, obs, I_0n, l_1, l_2, l_3, l_4, l_5, l_6, l_7, l_8, l_11, l_12, l_15, l_16, l_18, l_20, l_21, l_29, l_30, l_31, l_32, l_33, l_39, l_40, l_44, l_45, l_46, l_47, l_48, l_53, l_57, l_63, l_64, l_65, l_66, l_71, l_72, l_75, l_90, l_97, l_120, l_122, l_127, l_128, l_1812, l_3600, l_4000, l_252645135, l_268435456, l_858993459, l_1431655765, I_add, I_mul, I_sub, I_addN, I_mulN, I_subN, ilt_t, ilt_f, ile_t, ile_f, ieq_t, ieq_f, up_same, up_up, I_and, I_or, I_shlN, I_shrN, I_divN, I_remN, dzI, i2cI, narI, Int.toNat_natCast, true_or, or_true, false_or, or_false, true_and, and_true, false_and, and_false, not_true_eq_false, not_false_eq_true, cScript, gScript_draft, gScript_made, gScript_tasks, nScript_tasks, rScript_tasks, gScript_lines, nScript_lines, rScript_lines, gScript_ranBy, nScript_ranBy, rScript_ranBy, gScript_runCounts, nScript_runCounts, rScript_runCounts, wScript_runCounts, gScript_learner, gScript_lineCount, pScript_lineCount, gScript_runCount, pScript_runCount, gScript_askedLines, pScript_askedLines, b_X11_run_0, f_X11_run_0, f_X11_run, e1, e2, e3, kxTI, n3_0, n2_0, n1_0]
      all_goals rfl
theorem x_runE4 {tx : Nat → ZText} {pg : Nat → ZProg} {le : Nat → ZLearnt} {ln : Nat → ZLine} {tk : Nat → ZTask} {bd : Nat → ZBoard} {vi : Nat → Int32} {va : Nat → Nat → Int32} {vl : Nat → Nat → Int64} {vj : Int64} {la : Option Nat} {me : Nat → Option Nat} {T n l q w r : Nat} {L : Le} (hT : T < 3) (hlq : l ≤ q) (hq : q < n) (hw : w ≤ 2) (hn : vi 907 = I (n : Nat)) (n8 : n ≤ 8) (hr : vi 908 = I (r : Nat)) (hr2 : r ≤ 30) (hL : (le (aTask_learnt (eScript_tasks T))).1 = I ((if L = none then 0 else 1 : Nat) : Int)) (h : L = none ∨ r = 30) : f_X11_run F aScript (I (T : Nat)) (I (l : Nat)) (I (q : Nat)) (I (w : Nat)) (mk (tx, pg, le, ln, tk, bd, vi, va, vl, vj, la, me)) = some (2, 0, mk (tx, pg, le, ln, tk, bd, vi, va, vl, vj, la, me)) := by
  have hK : isTask (eScript_tasks T) := is_eScript_tasks hT
  have hM := is_Task_learnt hK
  have e1 := x_nt (F := F) (tx := tx) (pg := pg) (le := le) (ln := ln) (tk := tk) (bd := bd) (vi := vi) (va := va) (vl := vl) (vj := vj) (la := la) (me := me) hT
  have e2 := x_nl (F := F) (tx := tx) (pg := pg) (le := le) (ln := ln) (tk := tk) (bd := bd) (vi := vi) (va := va) (vl := vl) (vj := vj) (la := la) (me := me) hn n8 (show l < n by omega)
  have e3 := x_nl (F := F) (tx := tx) (pg := pg) (le := le) (ln := ln) (tk := tk) (bd := bd) (vi := vi) (va := va) (vl := vl) (vj := vj) (la := la) (me := me) hn n8 hq
  by_cases c : L = none
  · rw [if_pos c] at hL
    simp (disch := first | assumption | omega | exact is_Script_draft | exact is_Script_made | exact is_Learner_made | exact is_Learner_madeFirst | (apply is_eScript_tasks; omega) | (apply is_eScript_lines; omega) | (apply is_eScript_ranBy; omega)) only [↓reduceIte, ↓I_n1, obs, I_0n, l_1, l_2, l_3, l_4, l_5, l_6, l_7, l_8, l_11, l_12, l_15, l_16, l_18, l_20, l_21, l_29, l_30, l_31, l_32, l_33, l_39, l_40, l_44, l_45, l_46, l_47, l_48, l_53, l_57, l_63, l_64, l_65, l_66, l_71, l_72, l_75, l_90, l_97, l_120, l_122, l_127, l_128, l_1812, l_3600, l_4000, l_252645135, l_268435456, l_858993459, l_1431655765, I_add, I_mul, I_sub, I_addN, I_mulN, I_subN, ilt_t, ilt_f, ile_t, ile_f, ieq_t, ieq_f, up_same, up_up, I_and, I_or, I_shlN, I_shrN, I_divN, I_remN, dzI, i2cI, narI, Int.toNat_natCast, true_or, or_true, false_or, or_false, true_and, and_true, false_and, and_false, not_true_eq_false, not_false_eq_true, cScript, gScript_draft, gScript_made, gScript_tasks, nScript_tasks, rScript_tasks, gScript_lines, nScript_lines, rScript_lines, gScript_ranBy, nScript_ranBy, rScript_ranBy, gScript_runCounts, nScript_runCounts, rScript_runCounts, wScript_runCounts, gScript_learner, gScript_lineCount, pScript_lineCount, gScript_runCount, pScript_runCount, gScript_askedLines, pScript_askedLines, cTask, gTask_was, nTask_was, rTask_was, gTask_shown, nTask_shown, rTask_shown, gTask_lineOf, nTask_lineOf, rTask_lineOf, wTask_lineOf, gTask_examples, pTask_examples, gTask_refusedOf, nTask_refusedOf, rTask_refusedOf, gTask_refused, nTask_refused, rTask_refused, gTask_refusals, pTask_refusals, gTask_pins, nTask_pins, rTask_pins, wTask_pins, gTask_learnt, gTask_standing, pTask_standing, gTask_best, nTask_best, rTask_best, gTask_bestCount, pTask_bestCount, gTask_isBestKnown, pTask_isBestKnown, cLearnt, gLearnt_first, gLearnt_second, gLearnt_any, pLearnt_any, gLearnt_parting, pLearnt_parting, b_X11_run_0, f_X11_run_0, f_X11_run, e1, e2, e3, hL, kxTI, n3_0, n2_0, n1_0]
    all_goals rfl
  · rw [if_neg c] at hL
    have : r = 30 := by
      rcases h with h | h
      · exact absurd h c
      · exact h
    subst this
    simp (disch := first | assumption | omega | exact is_Script_draft | exact is_Script_made | exact is_Learner_made | exact is_Learner_madeFirst | (apply is_eScript_tasks; omega) | (apply is_eScript_lines; omega) | (apply is_eScript_ranBy; omega)) only [↓reduceIte, ↓I_n1, obs, I_0n, l_1, l_2, l_3, l_4, l_5, l_6, l_7, l_8, l_11, l_12, l_15, l_16, l_18, l_20, l_21, l_29, l_30, l_31, l_32, l_33, l_39, l_40, l_44, l_45, l_46, l_47, l_48, l_53, l_57, l_63, l_64, l_65, l_66, l_71, l_72, l_75, l_90, l_97, l_120, l_122, l_127, l_128, l_1812, l_3600, l_4000, l_252645135, l_268435456, l_858993459, l_1431655765, I_add, I_mul, I_sub, I_addN, I_mulN, I_subN, ilt_t, ilt_f, ile_t, ile_f, ieq_t, ieq_f, up_same, up_up, I_and, I_or, I_shlN, I_shrN, I_divN, I_remN, dzI, i2cI, narI, Int.toNat_natCast, true_or, or_true, false_or, or_false, true_and, and_true, false_and, and_false, not_true_eq_false, not_false_eq_true, cScript, gScript_draft, gScript_made, gScript_tasks, nScript_tasks, rScript_tasks, gScript_lines, nScript_lines, rScript_lines, gScript_ranBy, nScript_ranBy, rScript_ranBy, gScript_runCounts, nScript_runCounts, rScript_runCounts, wScript_runCounts, gScript_learner, gScript_lineCount, pScript_lineCount, gScript_runCount, pScript_runCount, gScript_askedLines, pScript_askedLines, cTask, gTask_was, nTask_was, rTask_was, gTask_shown, nTask_shown, rTask_shown, gTask_lineOf, nTask_lineOf, rTask_lineOf, wTask_lineOf, gTask_examples, pTask_examples, gTask_refusedOf, nTask_refusedOf, rTask_refusedOf, gTask_refused, nTask_refused, rTask_refused, gTask_refusals, pTask_refusals, gTask_pins, nTask_pins, rTask_pins, wTask_pins, gTask_learnt, gTask_standing, pTask_standing, gTask_best, nTask_best, rTask_best, gTask_bestCount, pTask_bestCount, gTask_isBestKnown, pTask_isBestKnown, cLearnt, gLearnt_first, gLearnt_second, gLearnt_any, pLearnt_any, gLearnt_parting, pLearnt_parting, b_X11_run_0, f_X11_run_0, f_X11_run, e1, e2, e3, hL, hr, kxTI, n3_0, n2_0, n1_0]
    all_goals rfl
end
