/-! METHODS, part 7 (laid by wip/whole/tools/gen.py) -/
-- PatchbayScript$Learner.learnBest(LPatchbayScript$Task;)Z
def T_X3_learnBest : List cRow := [(0, .iconst 0, 1, 0), (1, .istore_n 2, 2, 0), (2, .iload_n 2, 3, 0), (3, .aload_n 1, 4, 0), (4, .getfield 43, 7, 0), (7, .if_icmp .ge 46, 10, 53), (10, .iload_n 2, 11, 0), (11, .iconst 5, 12, 0), (12, .if_icmp .ge 41, 15, 53), (15, .aload_n 1, 16, 0), (16, .aload_n 1, 17, 0), (17, .getfield 65, 20, 0), (20, .iload_n 2, 21, 0), (21, .aaload, 22, 0), (22, .aload_n 0, 23, 0), (23, .getfield 31, 26, 0), (26, .invokevirtual 75, 29, 0), (29, .ifCond .eq 18, 32, 47), (32, .aload_n 1, 33, 0), (33, .getfield 79, 36, 0), (36, .aload_n 1, 37, 0), (37, .getfield 65, 40, 0), (40, .iload_n 2, 41, 0), (41, .aaload, 42, 0), (42, .invokevirtual 83, 45, 0), (45, .iconst 1, 46, 0), (46, .ireturn, 47, 0), (47, .iinc 2 1, 50, 0), (50, .goto (-48), 53, 2), (53, .iconst 0, 54, 0), (54, .ireturn, 55, 0)]
theorem T_X3_learnBest_ok : T_X3_learnBest.all (rowB cX3_learnBest) = true := by decide +kernel
def th_X3_learnBest : List (Nat × Nat) := []
def sw_X3_learnBest : List (Nat × (List (Int32 × Nat) × Nat)) := []
theorem sw_X3_learnBest_ok : ∀ q ∈ sw_X3_learnBest, swS cX3_learnBest q := fun _ h => absurd h List.not_mem_nil
def na_X3_learnBest : List (Nat × Nat) := [(226, 3), (250, 2)]
def ca_X3_learnBest {R' : Type} (F : Nat) : List (Nat × cFn R') := [(226, n_X9_bears (f_X9_bears F)), (250, n_X4_setOne (f_X4_setOne F))]
theorem ca_X3_learnBest_ok {R' : Type} {q : cL} (hst : q.1.stackTraces = false) {D : Nat} (hD : 5 ≤ D) (F : Nat) : ∀ x ∈ (ca_X3_learnBest (R' := R') F), 1 ≤ D ∧ ceS q RX3 (D - 1) x.1 x.2 := List.forall_mem_cons.mpr ⟨⟨by omega, n_X9_bears_ok (k := 75) (lw_good_of (tb_ok 948 (by decide +kernel)) rfl) (fun a0 a1 a2 M r h => c_X9_bears hst (by omega) F a0 a1 a2 M r h)⟩, List.forall_mem_cons.mpr ⟨⟨by omega, n_X4_setOne_ok (k := 83) (lw_good_of (tb_ok 957 (by decide +kernel)) rfl) (fun a0 a1 M r h => c_X4_setOne hst (by omega) F a0 a1 M r h)⟩, fun _ h => absurd h List.not_mem_nil⟩⟩
def kd_X3_learnBest_2 (g : Nat → Nat → Int32 → cM → Option (Int32 × cM)) : cKf (Int32 × cM) := fun vs st M => (lR vs 0).bind fun x0 => (lR vs 1).bind fun x1 => (lI vs 2).bind fun x2 => match st with
  | [] => g x0 x1 x2 M
  | _ => none
theorem kf_X3_learnBest_2 {X : cCtx} {o : cO} {r : Int32 × cM} {g : Nat → Nat → Int32 → cM → Option (Int32 × cM)} (hg : ∀ x0 x1 x2 M, g x0 x1 x2 M = some r → WX X 3 o 2 [some (.ref x0), some (.ref x1), some (.int x2)] [] M) : ∀ vs st M, kd_X3_learnBest_2 g vs st M = some r → WX X 3 o 2 vs st M := by
  intro vs st M h
  unfold kd_X3_learnBest_2 at h
  obtain ⟨x0, h0, h⟩ := Option.bind_eq_some_iff.mp h
  obtain ⟨x1, h1, h⟩ := Option.bind_eq_some_iff.mp h
  obtain ⟨x2, h2, h⟩ := Option.bind_eq_some_iff.mp h
  split at h
  · exact WX_weak (hg _ _ _ _ h) rfl ⟨lR_of h0, lR_of h1, lI_of h2, trivial⟩
  · cases h
theorem e_X3_learnBest_2 (F : Nat) (t2 : Nat → Nat → Int32 → cM → Option (Int32 × cM)) (x0 : Nat) (x1 : Nat) (x2 : Int32) (M : cM) : b_X3_learnBest_2 F t2 x0 x1 x2 M = run T_X3_learnBest P_RX3 false 1 (naL na_X3_learnBest) (caL (ca_X3_learnBest F)) (lkN th_X3_learnBest) (lkN sw_X3_learnBest) krI kxN (spL [2]) (KL [(2, kd_X3_learnBest_2 t2)]) 34 2 [some (.ref x0), some (.ref x1), some (.int x2)] [] M := rfl
theorem ok_X3_learnBest_2 {X : cCtx} {D : Nat} {r : Int32 × cM} (G : FX X 3 (eI r) cX3_learnBest RX3 1 D) {F : Nat} (hca : ∀ x ∈ (ca_X3_learnBest (R' := Int32 × cM) F), 1 ≤ D ∧ ceS X.1 RX3 (D - 1) x.1 x.2) (n : Nat) : ∀ x0 x1 x2 M, f_X3_learnBest_2 F n x0 x1 x2 M = some r → WX X 3 (eI r) 2 [some (.ref x0), some (.ref x1), some (.int x2)] [] M := by
  induction n with
  | zero => intro x0 x1 x2 M h; cases h
  | succ n ih =>
    intro x0 x1 x2 M h
    exact seg_ok G P_RX3_ok T_X3_learnBest_ok hca (fun _ h => absurd h List.not_mem_nil) sw_X3_learnBest_ok krI_ok (kxN_ok (f := eI)) (List.forall_mem_cons.mpr ⟨kf_X3_learnBest_2 (ih), fun _ h => absurd h List.not_mem_nil⟩) ((e_X3_learnBest_2 F (f_X3_learnBest_2 F n) x0 x1 x2 M).symm.trans h)
theorem e_X3_learnBest_0 (F : Nat) (t2 : Nat → Nat → Int32 → cM → Option (Int32 × cM)) (x0 : Nat) (x1 : Nat) (M : cM) : b_X3_learnBest_0 F t2 x0 x1 M = run T_X3_learnBest P_RX3 false 1 (naL na_X3_learnBest) (caL (ca_X3_learnBest F)) (lkN th_X3_learnBest) (lkN sw_X3_learnBest) krI kxN (spL [2]) (KL [(2, kd_X3_learnBest_2 t2)]) 34 0 [some (.ref x0), some (.ref x1), none] [] M := rfl
theorem ok_X3_learnBest_0 {X : cCtx} {D : Nat} {r : Int32 × cM} (G : FX X 3 (eI r) cX3_learnBest RX3 1 D) {F : Nat} (hca : ∀ x ∈ (ca_X3_learnBest (R' := Int32 × cM) F), 1 ≤ D ∧ ceS X.1 RX3 (D - 1) x.1 x.2) : ∀ x0 x1 M, f_X3_learnBest_0 F x0 x1 M = some r → WX X 3 (eI r) 0 [some (.ref x0), some (.ref x1), none] [] M := by
  intro x0 x1 M h
  exact seg_ok G P_RX3_ok T_X3_learnBest_ok hca (fun _ h => absurd h List.not_mem_nil) sw_X3_learnBest_ok krI_ok (kxN_ok (f := eI)) (List.forall_mem_cons.mpr ⟨kf_X3_learnBest_2 (ok_X3_learnBest_2 G hca F), fun _ h => absurd h List.not_mem_nil⟩) ((e_X3_learnBest_0 F (f_X3_learnBest_2 F F) x0 x1 M).symm.trans h)
theorem c_X3_learnBest {q : cL} (hst : q.1.stackTraces = false) {D : Nat} (hD : 5 ≤ D) (F : Nat) (a0 : Nat) (a1 : Nat) (M : cM) (r : Int32 × cM) (h : f_X3_learnBest F a0 a1 M = some r) : CTx q yX3_learnBest (.code yX3_learnBest cX3_learnBest 3 (some .boolean)) D [.ref a0, .ref a1] M (eI r) ∧ ∃ fs, M[a0]? = some (.inr (2, fs)) := by
  unfold f_X3_learnBest at h
  split at h
  · next hi => exact ⟨CTx_of (own := RX3) (rk := 1) hst (by decide +kernel) rfl (rfl) (Nat.le_of_ble_eq_true rfl) (fun X hX G => by subst hX; exact ok_X3_learnBest_0 G (ca_X3_learnBest_ok hst hD F) a0 a1 M h), isC_of hi⟩
  · cases h
def n_X3_learnBest {R' : Type} (f : Nat → Nat → cM → Option (Int32 × cM)) : cFn R' := fun as M κ κx => match as with
  | [.ref a0, .ref a1] => (f a0 a1 M).bind fun p => κ (some (.int p.1)) p.2
  | _ => none
theorem w_X3_learnBest : ∀ w ∈ [Cond.instanceMethod yX3_learnBest, .selects yX3_learnBest.cls yX3_learnBest yX3_learnBest, .initialized yX3_learnBest.cls, .code yX3_learnBest cX3_learnBest 3 (some .boolean)], w ∈ lw_good := List.forall_mem_cons.mpr ⟨lw_good_of (tb_ok 945 (by decide +kernel)) rfl, List.forall_mem_cons.mpr ⟨lw_good_of (tb_ok 946 (by decide +kernel)) rfl, List.forall_mem_cons.mpr ⟨lw_good_of (tb_ok 7 (by decide +kernel)) rfl, List.forall_mem_cons.mpr ⟨lw_good_of (tb_ok 947 (by decide +kernel)) rfl, fun _ h => absurd h List.not_mem_nil⟩⟩⟩⟩
theorem n_X3_learnBest_ok {R' : Type} {q : cL} {own : String} {d k : Nat} {f : Nat → Nat → cM → Option (Int32 × cM)} (hl : Cond.methodLink own k yX3_learnBest ∈ lw_good) (hf : ∀ a0 a1 M r, f a0 a1 M = some r → CTx q yX3_learnBest (.code yX3_learnBest cX3_learnBest 3 (some .boolean)) d [.ref a0, .ref a1] M (eI r) ∧ ∃ fs, M[a0]? = some (.inr (2, fs))) : ceS q own d (3 * k + 1) (n_X3_learnBest (R' := R') f) := by
  intro as M κ κx r h
  unfold n_X3_learnBest at h
  split at h
  · obtain ⟨p, h1, h2⟩ := Option.bind_eq_some_iff.mp h
    obtain ⟨hc, fs, ha⟩ := hf _ _ _ _ h1
    exact ⟨eI p, fun _ => h2, fun hne => absurd rfl hne, Or.inr (Or.inl ⟨yX3_learnBest, cX3_learnBest, 3, (some .boolean), k, 1, _, _, 2, TX3, 5, fs, rfl, rfl, hc, ha, rfl, List.forall_mem_cons.mpr ⟨hl, w_X3_learnBest⟩, ⟨rfl, by decide +kernel, by decide +kernel, by decide +kernel⟩, rfl, by decide⟩)⟩
  · cases h
-- PatchbayScript$Learnt.setNothing()V
def T_X4_setNothing : List cRow := [(0, .aload_n 0, 1, 0), (1, .iconst 0, 2, 0), (2, .putfield 47, 5, 0), (5, .aload_n 0, 6, 0), (6, .iconst (-1), 7, 0), (7, .putfield 21, 10, 0), (10, .return_, 11, 0)]
theorem T_X4_setNothing_ok : T_X4_setNothing.all (rowB cX4_setNothing) = true := by decide +kernel
def th_X4_setNothing : List (Nat × Nat) := []
def sw_X4_setNothing : List (Nat × (List (Int32 × Nat) × Nat)) := []
theorem sw_X4_setNothing_ok : ∀ q ∈ sw_X4_setNothing, swS cX4_setNothing q := fun _ h => absurd h List.not_mem_nil
def na_X4_setNothing : List (Nat × Nat) := []
def ca_X4_setNothing {R' : Type} (F : Nat) : List (Nat × cFn R') := []
theorem ca_X4_setNothing_ok {R' : Type} {q : cL} (hst : q.1.stackTraces = false) {D : Nat} (hD : 0 ≤ D) (F : Nat) : ∀ x ∈ (ca_X4_setNothing (R' := R') F), 1 ≤ D ∧ ceS q RX4 (D - 1) x.1 x.2 := fun _ h => absurd h List.not_mem_nil
theorem e_X4_setNothing_0 (F : Nat) (x0 : Nat) (M : cM) : b_X4_setNothing_0 F x0 M = run T_X4_setNothing P_RX4 false 5 (naL na_X4_setNothing) (caL (ca_X4_setNothing F)) (lkN th_X4_setNothing) (lkN sw_X4_setNothing) krV kxN (spL []) (KL []) 10 0 [some (.ref x0)] [] M := rfl
theorem ok_X4_setNothing_0 {X : cCtx} {D : Nat} {r : cM} (G : FX X 1 (eV r) cX4_setNothing RX4 5 D) {F : Nat} (hca : ∀ x ∈ (ca_X4_setNothing (R' := cM) F), 1 ≤ D ∧ ceS X.1 RX4 (D - 1) x.1 x.2) : ∀ x0 M, f_X4_setNothing_0 F x0 M = some r → WX X 1 (eV r) 0 [some (.ref x0)] [] M := by
  intro x0 M h
  exact seg_ok G P_RX4_ok T_X4_setNothing_ok hca (fun _ h => absurd h List.not_mem_nil) sw_X4_setNothing_ok krV_ok (kxN_ok (f := eV)) (fun _ h => absurd h List.not_mem_nil) ((e_X4_setNothing_0 F x0 M).symm.trans h)
theorem c_X4_setNothing {q : cL} (hst : q.1.stackTraces = false) {D : Nat} (hD : 0 ≤ D) (F : Nat) (a0 : Nat) (M : cM) (r : cM) (h : f_X4_setNothing F a0 M = some r) : CTx q yX4_setNothing (.code yX4_setNothing cX4_setNothing 1 none) D [.ref a0] M (eV r) ∧ ∃ fs, M[a0]? = some (.inr (3, fs)) := by
  unfold f_X4_setNothing at h
  split at h
  · next hi => exact ⟨CTx_of (own := RX4) (rk := 5) hst (by decide +kernel) rfl (rfl) (Nat.le_of_ble_eq_true rfl) (fun X hX G => by subst hX; exact ok_X4_setNothing_0 G (ca_X4_setNothing_ok hst hD F) a0 M h), isC_of hi⟩
  · cases h
def n_X4_setNothing {R' : Type} (f : Nat → cM → Option (cM)) : cFn R' := fun as M κ κx => match as with
  | [.ref a0] => (f a0 M).bind fun p => κ none p
  | _ => none
theorem w_X4_setNothing : ∀ w ∈ [Cond.instanceMethod yX4_setNothing, .selects yX4_setNothing.cls yX4_setNothing yX4_setNothing, .initialized yX4_setNothing.cls, .code yX4_setNothing cX4_setNothing 1 none], w ∈ lw_good := List.forall_mem_cons.mpr ⟨lw_good_of (tb_ok 966 (by decide +kernel)) rfl, List.forall_mem_cons.mpr ⟨lw_good_of (tb_ok 967 (by decide +kernel)) rfl, List.forall_mem_cons.mpr ⟨lw_good_of (tb_ok 4 (by decide +kernel)) rfl, List.forall_mem_cons.mpr ⟨lw_good_of (tb_ok 968 (by decide +kernel)) rfl, fun _ h => absurd h List.not_mem_nil⟩⟩⟩⟩
theorem n_X4_setNothing_ok {R' : Type} {q : cL} {own : String} {d k : Nat} {f : Nat → cM → Option (cM)} (hl : Cond.methodLink own k yX4_setNothing ∈ lw_good) (hf : ∀ a0 M r, f a0 M = some r → CTx q yX4_setNothing (.code yX4_setNothing cX4_setNothing 1 none) d [.ref a0] M (eV r) ∧ ∃ fs, M[a0]? = some (.inr (3, fs))) : ceS q own d (3 * k + 1) (n_X4_setNothing (R' := R') f) := by
  intro as M κ κx r h
  unfold n_X4_setNothing at h
  split at h
  · obtain ⟨p, h1, h2⟩ := Option.bind_eq_some_iff.mp h
    obtain ⟨hc, fs, ha⟩ := hf _ _ _ h1
    exact ⟨eV p, fun _ => h2, fun hne => absurd rfl hne, Or.inr (Or.inl ⟨yX4_setNothing, cX4_setNothing, 1, none, k, 0, _, _, 3, TX4, 4, fs, rfl, rfl, hc, ha, rfl, List.forall_mem_cons.mpr ⟨hl, w_X4_setNothing⟩, ⟨rfl, by decide +kernel, by decide +kernel, by decide +kernel⟩, rfl, by decide⟩)⟩
  · cases h
-- PatchbayScript$Text.has(C)Z
def T_X10_has : List cRow := [(0, .iconst 0, 1, 0), (1, .istore_n 2, 2, 0), (2, .iload_n 2, 3, 0), (3, .aload_n 0, 4, 0), (4, .getfield 21, 7, 0), (7, .if_icmp .ge 27, 10, 34), (10, .iload_n 2, 11, 0), (11, .bipush 20, 13, 0), (13, .if_icmp .ge 21, 16, 34), (16, .aload_n 0, 17, 0), (17, .getfield 11, 20, 0), (20, .iload_n 2, 21, 0), (21, .caload, 22, 0), (22, .iload_n 1, 23, 0), (23, .if_icmp .ne 5, 26, 28), (26, .iconst 1, 27, 0), (27, .ireturn, 28, 0), (28, .iinc 2 1, 31, 0), (31, .goto (-29), 34, 2), (34, .iconst 0, 35, 0), (35, .ireturn, 36, 0)]
theorem T_X10_has_ok : T_X10_has.all (rowB cX10_has) = true := by decide +kernel
def th_X10_has : List (Nat × Nat) := []
def sw_X10_has : List (Nat × (List (Int32 × Nat) × Nat)) := []
theorem sw_X10_has_ok : ∀ q ∈ sw_X10_has, swS cX10_has q := fun _ h => absurd h List.not_mem_nil
def na_X10_has : List (Nat × Nat) := []
def ca_X10_has {R' : Type} (F : Nat) : List (Nat × cFn R') := []
theorem ca_X10_has_ok {R' : Type} {q : cL} (hst : q.1.stackTraces = false) {D : Nat} (hD : 0 ≤ D) (F : Nat) : ∀ x ∈ (ca_X10_has (R' := R') F), 1 ≤ D ∧ ceS q RX10 (D - 1) x.1 x.2 := fun _ h => absurd h List.not_mem_nil
def kd_X10_has_2 (g : Nat → Int32 → Int32 → cM → Option (Int32 × cM)) : cKf (Int32 × cM) := fun vs st M => (lR vs 0).bind fun x0 => (lI vs 1).bind fun x1 => (lI vs 2).bind fun x2 => match st with
  | [] => g x0 x1 x2 M
  | _ => none
theorem kf_X10_has_2 {X : cCtx} {o : cO} {r : Int32 × cM} {g : Nat → Int32 → Int32 → cM → Option (Int32 × cM)} (hg : ∀ x0 x1 x2 M, g x0 x1 x2 M = some r → WX X 3 o 2 [some (.ref x0), some (.int x1), some (.int x2)] [] M) : ∀ vs st M, kd_X10_has_2 g vs st M = some r → WX X 3 o 2 vs st M := by
  intro vs st M h
  unfold kd_X10_has_2 at h
  obtain ⟨x0, h0, h⟩ := Option.bind_eq_some_iff.mp h
  obtain ⟨x1, h1, h⟩ := Option.bind_eq_some_iff.mp h
  obtain ⟨x2, h2, h⟩ := Option.bind_eq_some_iff.mp h
  split at h
  · exact WX_weak (hg _ _ _ _ h) rfl ⟨lR_of h0, lI_of h1, lI_of h2, trivial⟩
  · cases h
theorem e_X10_has_2 (F : Nat) (t2 : Nat → Int32 → Int32 → cM → Option (Int32 × cM)) (x0 : Nat) (x1 : Int32) (x2 : Int32) (M : cM) : b_X10_has_2 F t2 x0 x1 x2 M = run T_X10_has P_RX10 false 1 (naL na_X10_has) (caL (ca_X10_has F)) (lkN th_X10_has) (lkN sw_X10_has) krI kxN (spL [2]) (KL [(2, kd_X10_has_2 t2)]) 24 2 [some (.ref x0), some (.int x1), some (.int x2)] [] M := rfl
theorem ok_X10_has_2 {X : cCtx} {D : Nat} {r : Int32 × cM} (G : FX X 3 (eI r) cX10_has RX10 1 D) {F : Nat} (hca : ∀ x ∈ (ca_X10_has (R' := Int32 × cM) F), 1 ≤ D ∧ ceS X.1 RX10 (D - 1) x.1 x.2) (n : Nat) : ∀ x0 x1 x2 M, f_X10_has_2 F n x0 x1 x2 M = some r → WX X 3 (eI r) 2 [some (.ref x0), some (.int x1), some (.int x2)] [] M := by
  induction n with
  | zero => intro x0 x1 x2 M h; cases h
  | succ n ih =>
    intro x0 x1 x2 M h
    exact seg_ok G P_RX10_ok T_X10_has_ok hca (fun _ h => absurd h List.not_mem_nil) sw_X10_has_ok krI_ok (kxN_ok (f := eI)) (List.forall_mem_cons.mpr ⟨kf_X10_has_2 (ih), fun _ h => absurd h List.not_mem_nil⟩) ((e_X10_has_2 F (f_X10_has_2 F n) x0 x1 x2 M).symm.trans h)
theorem e_X10_has_0 (F : Nat) (t2 : Nat → Int32 → Int32 → cM → Option (Int32 × cM)) (x0 : Nat) (x1 : Int32) (M : cM) : b_X10_has_0 F t2 x0 x1 M = run T_X10_has P_RX10 false 1 (naL na_X10_has) (caL (ca_X10_has F)) (lkN th_X10_has) (lkN sw_X10_has) krI kxN (spL [2]) (KL [(2, kd_X10_has_2 t2)]) 24 0 [some (.ref x0), some (.int x1), none] [] M := rfl
theorem ok_X10_has_0 {X : cCtx} {D : Nat} {r : Int32 × cM} (G : FX X 3 (eI r) cX10_has RX10 1 D) {F : Nat} (hca : ∀ x ∈ (ca_X10_has (R' := Int32 × cM) F), 1 ≤ D ∧ ceS X.1 RX10 (D - 1) x.1 x.2) : ∀ x0 x1 M, f_X10_has_0 F x0 x1 M = some r → WX X 3 (eI r) 0 [some (.ref x0), some (.int x1), none] [] M := by
  intro x0 x1 M h
  exact seg_ok G P_RX10_ok T_X10_has_ok hca (fun _ h => absurd h List.not_mem_nil) sw_X10_has_ok krI_ok (kxN_ok (f := eI)) (List.forall_mem_cons.mpr ⟨kf_X10_has_2 (ok_X10_has_2 G hca F), fun _ h => absurd h List.not_mem_nil⟩) ((e_X10_has_0 F (f_X10_has_2 F F) x0 x1 M).symm.trans h)
theorem c_X10_has {q : cL} (hst : q.1.stackTraces = false) {D : Nat} (hD : 0 ≤ D) (F : Nat) (a0 : Nat) (a1 : Int32) (M : cM) (r : Int32 × cM) (h : f_X10_has F a0 a1 M = some r) : CTx q yX10_has (.code yX10_has cX10_has 3 (some .boolean)) D [.ref a0, .int a1] M (eI r) ∧ ∃ fs, M[a0]? = some (.inr (8, fs)) := by
  unfold f_X10_has at h
  split at h
  · next hi => exact ⟨CTx_of (own := RX10) (rk := 1) hst (by decide +kernel) rfl (rfl) (Nat.le_of_ble_eq_true rfl) (fun X hX G => by subst hX; exact ok_X10_has_0 G (ca_X10_has_ok hst hD F) a0 a1 M h), isC_of hi⟩
  · cases h
def n_X10_has {R' : Type} (f : Nat → Int32 → cM → Option (Int32 × cM)) : cFn R' := fun as M κ κx => match as with
  | [.ref a0, .int a1] => (f a0 a1 M).bind fun p => κ (some (.int p.1)) p.2
  | _ => none
theorem w_X10_has : ∀ w ∈ [Cond.instanceMethod yX10_has, .selects yX10_has.cls yX10_has yX10_has, .initialized yX10_has.cls, .code yX10_has cX10_has 3 (some .boolean)], w ∈ lw_good := List.forall_mem_cons.mpr ⟨lw_good_of (tb_ok 573 (by decide +kernel)) rfl, List.forall_mem_cons.mpr ⟨lw_good_of (tb_ok 574 (by decide +kernel)) rfl, List.forall_mem_cons.mpr ⟨lw_good_of (tb_ok 2 (by decide +kernel)) rfl, List.forall_mem_cons.mpr ⟨lw_good_of (tb_ok 575 (by decide +kernel)) rfl, fun _ h => absurd h List.not_mem_nil⟩⟩⟩⟩
theorem n_X10_has_ok {R' : Type} {q : cL} {own : String} {d k : Nat} {f : Nat → Int32 → cM → Option (Int32 × cM)} (hl : Cond.methodLink own k yX10_has ∈ lw_good) (hf : ∀ a0 a1 M r, f a0 a1 M = some r → CTx q yX10_has (.code yX10_has cX10_has 3 (some .boolean)) d [.ref a0, .int a1] M (eI r) ∧ ∃ fs, M[a0]? = some (.inr (8, fs))) : ceS q own d (3 * k + 1) (n_X10_has (R' := R') f) := by
  intro as M κ κx r h
  unfold n_X10_has at h
  split at h
  · obtain ⟨p, h1, h2⟩ := Option.bind_eq_some_iff.mp h
    obtain ⟨hc, fs, ha⟩ := hf _ _ _ _ h1
    exact ⟨eI p, fun _ => h2, fun hne => absurd rfl hne, Or.inr (Or.inl ⟨yX10_has, cX10_has, 3, (some .boolean), k, 1, _, _, 8, TX10, 3, fs, rfl, rfl, hc, ha, rfl, List.forall_mem_cons.mpr ⟨hl, w_X10_has⟩, ⟨rfl, by decide +kernel, by decide +kernel, by decide +kernel⟩, rfl, by decide⟩)⟩
  · cases h
-- PatchbayScript$Learnt.holds(ILPatchbayScript$Text;)Z
def T_X4_holds : List cRow := [(0, .iload_n 0, 1, 0), (1, .bipush 12, 3, 0), (3, .if_icmp .ge 26, 6, 29), (6, .aload_n 1, 7, 0), (7, .iload_n 0, 8, 0), (8, .iconst 3, 9, 0), (9, .idiv, 10, 0), (10, .iconst 1, 11, 0), (11, .invokevirtual 25, 14, 0), (14, .invokestatic 31, 17, 0), (17, .iload_n 0, 18, 0), (18, .iconst 3, 19, 0), (19, .irem, 20, 0), (20, .if_icmp .le 7, 23, 27), (23, .iconst 1, 24, 0), (24, .goto 4, 27, 28), (27, .iconst 0, 28, 0), (28, .ireturn, 29, 0), (29, .iload_n 0, 30, 0), (30, .bipush 16, 32, 0), (32, .if_icmp .ge 23, 35, 55), (35, .aload_n 1, 36, 0), (36, .iload_n 0, 37, 0), (37, .bipush 12, 39, 0), (39, .isub, 40, 0), (40, .iconst 0, 41, 0), (41, .invokevirtual 25, 44, 0), (44, .iconst 1, 45, 0), (45, .iand, 46, 0), (46, .ifCond .eq 7, 49, 53), (49, .iconst 1, 50, 0), (50, .goto 4, 53, 54), (53, .iconst 0, 54, 0), (54, .ireturn, 55, 0), (55, .aload_n 1, 56, 0), (56, .iload_n 0, 57, 0), (57, .bipush 15, 59, 0), (59, .isub, 60, 0), (60, .invokestatic 37, 63, 0), (63, .invokevirtual 43, 66, 0), (66, .ireturn, 67, 0)]
theorem T_X4_holds_ok : T_X4_holds.all (rowB cX4_holds) = true := by decide +kernel
def th_X4_holds : List (Nat × Nat) := []
def sw_X4_holds : List (Nat × (List (Int32 × Nat) × Nat)) := []
theorem sw_X4_holds_ok : ∀ q ∈ sw_X4_holds, swS cX4_holds q := fun _ h => absurd h List.not_mem_nil
def na_X4_holds : List (Nat × Nat) := [(76, 3), (93, 1), (111, 1), (130, 2)]
def ca_X4_holds {R' : Type} (F : Nat) : List (Nat × cFn R') := [(76, n_X10_placesOfRuns (f_X10_placesOfRuns F)), (93, n_J6_bitCount_0f7a4 (f_J6_bitCount_0f7a4 F)), (111, n_X7_markOf (f_X7_markOf F)), (130, n_X10_has (f_X10_has F))]
theorem ca_X4_holds_ok {R' : Type} {q : cL} (hst : q.1.stackTraces = false) {D : Nat} (hD : 1 ≤ D) (F : Nat) : ∀ x ∈ (ca_X4_holds (R' := R') F), 1 ≤ D ∧ ceS q RX4 (D - 1) x.1 x.2 := List.forall_mem_cons.mpr ⟨⟨by omega, n_X10_placesOfRuns_ok (k := 25) (lw_good_of (tb_ok 561 (by decide +kernel)) rfl) (fun a0 a1 a2 M r h => c_X10_placesOfRuns hst (by omega) F a0 a1 a2 M r h)⟩, List.forall_mem_cons.mpr ⟨⟨by omega, n_J6_bitCount_0f7a4_ok (k := 31) (lw_good_of (tb_ok 565 (by decide +kernel)) rfl) (fun a0 M r h => c_J6_bitCount_0f7a4 hst (by omega) F a0 M r h)⟩, List.forall_mem_cons.mpr ⟨⟨by omega, n_X7_markOf_ok (k := 37) (lw_good_of (tb_ok 571 (by decide +kernel)) rfl) (fun a0 M r h => c_X7_markOf hst (by omega) F a0 M r h)⟩, List.forall_mem_cons.mpr ⟨⟨by omega, n_X10_has_ok (k := 43) (lw_good_of (tb_ok 572 (by decide +kernel)) rfl) (fun a0 a1 M r h => c_X10_has hst (by omega) F a0 a1 M r h)⟩, fun _ h => absurd h List.not_mem_nil⟩⟩⟩⟩
theorem e_X4_holds_0 (F : Nat) (x0 : Int32) (x1 : Nat) (M : cM) : b_X4_holds_0 F x0 x1 M = run T_X4_holds P_RX4 false 1 (naL na_X4_holds) (caL (ca_X4_holds F)) (lkN th_X4_holds) (lkN sw_X4_holds) krI kxN (spL []) (KL []) 44 0 [some (.int x0), some (.ref x1)] [] M := rfl
theorem ok_X4_holds_0 {X : cCtx} {D : Nat} {r : Int32 × cM} (G : FX X 2 (eI r) cX4_holds RX4 1 D) {F : Nat} (hca : ∀ x ∈ (ca_X4_holds (R' := Int32 × cM) F), 1 ≤ D ∧ ceS X.1 RX4 (D - 1) x.1 x.2) : ∀ x0 x1 M, f_X4_holds_0 F x0 x1 M = some r → WX X 2 (eI r) 0 [some (.int x0), some (.ref x1)] [] M := by
  intro x0 x1 M h
  exact seg_ok G P_RX4_ok T_X4_holds_ok hca (fun _ h => absurd h List.not_mem_nil) sw_X4_holds_ok krI_ok (kxN_ok (f := eI)) (fun _ h => absurd h List.not_mem_nil) ((e_X4_holds_0 F x0 x1 M).symm.trans h)
theorem c_X4_holds {q : cL} (hst : q.1.stackTraces = false) {D : Nat} (hD : 1 ≤ D) (F : Nat) (a0 : Int32) (a1 : Nat) (M : cM) (r : Int32 × cM) (h : f_X4_holds F a0 a1 M = some r) : CTx q yX4_holds (.code yX4_holds cX4_holds 2 (some .boolean)) D [.int a0, .ref a1] M (eI r) := by
  exact CTx_of (own := RX4) (rk := 1) hst (by decide +kernel) rfl (rfl) (Nat.le_of_ble_eq_true rfl) (fun X hX G => by subst hX; exact ok_X4_holds_0 G (ca_X4_holds_ok hst hD F) a0 a1 M h)
def n_X4_holds {R' : Type} (f : Int32 → Nat → cM → Option (Int32 × cM)) : cFn R' := fun as M κ κx => match as with
  | [.int a0, .ref a1] => (f a0 a1 M).bind fun p => κ (some (.int p.1)) p.2
  | _ => none
theorem w_X4_holds : ∀ w ∈ [Cond.static yX4_holds, .initialized yX4_holds.cls, .code yX4_holds cX4_holds 2 (some .boolean)], w ∈ lw_good := List.forall_mem_cons.mpr ⟨lw_good_of (tb_ok 559 (by decide +kernel)) rfl, List.forall_mem_cons.mpr ⟨lw_good_of (tb_ok 4 (by decide +kernel)) rfl, List.forall_mem_cons.mpr ⟨lw_good_of (tb_ok 560 (by decide +kernel)) rfl, fun _ h => absurd h List.not_mem_nil⟩⟩⟩
theorem n_X4_holds_ok {R' : Type} {q : cL} {own : String} {d k : Nat} {f : Int32 → Nat → cM → Option (Int32 × cM)} (hl : Cond.methodLink own k yX4_holds ∈ lw_good) (hf : ∀ a0 a1 M r, f a0 a1 M = some r → CTx q yX4_holds (.code yX4_holds cX4_holds 2 (some .boolean)) d [.int a0, .ref a1] M (eI r)) : ceS q own d (3 * k) (n_X4_holds (R' := R') f) := by
  intro as M κ κx r h
  unfold n_X4_holds at h
  split at h
  · obtain ⟨p, h1, h2⟩ := Option.bind_eq_some_iff.mp h
    exact ⟨eI p, fun _ => h2, fun hne => absurd rfl hne, Or.inl ⟨yX4_holds, cX4_holds, 2, (some .boolean), k, 2, rfl, hf _ _ _ _ h1, List.forall_mem_cons.mpr ⟨hl, w_X4_holds⟩, ⟨by decide +kernel, by decide +kernel, by decide +kernel⟩, rfl, by decide⟩⟩
  · cases h
-- PatchbayScript$Learner.heldOf(LPatchbayScript$Task;I)I
def T_X3_heldOf : List cRow := [(0, .iconst 0, 1, 0), (1, .istore_n 2, 2, 0), (2, .iconst 0, 3, 0), (3, .istore_n 3, 4, 0), (4, .iload_n 3, 5, 0), (5, .aload_n 0, 6, 0), (6, .getfield 47, 9, 0), (9, .if_icmp .ge 33, 12, 42), (12, .iload_n 3, 13, 0), (13, .iconst 4, 14, 0), (14, .if_icmp .ge 28, 17, 42), (17, .iload_n 1, 18, 0), (18, .aload_n 0, 19, 0), (19, .getfield 117, 22, 0), (22, .iload_n 3, 23, 0), (23, .aaload, 24, 0), (24, .invokestatic 121, 27, 0), (27, .ifCond .eq 9, 30, 36), (30, .iload_n 2, 31, 0), (31, .iconst 1, 32, 0), (32, .iload_n 3, 33, 0), (33, .ishl, 34, 0), (34, .ior, 35, 0), (35, .istore_n 2, 36, 0), (36, .iinc 3 1, 39, 0), (39, .goto (-35), 42, 4), (42, .iload_n 2, 43, 0), (43, .ireturn, 44, 0)]
theorem T_X3_heldOf_ok : T_X3_heldOf.all (rowB cX3_heldOf) = true := by decide +kernel
def th_X3_heldOf : List (Nat × Nat) := []
def sw_X3_heldOf : List (Nat × (List (Int32 × Nat) × Nat)) := []
theorem sw_X3_heldOf_ok : ∀ q ∈ sw_X3_heldOf, swS cX3_heldOf q := fun _ h => absurd h List.not_mem_nil
def na_X3_heldOf : List (Nat × Nat) := [(363, 2)]
def ca_X3_heldOf {R' : Type} (F : Nat) : List (Nat × cFn R') := [(363, n_X4_holds (f_X4_holds F))]
theorem ca_X3_heldOf_ok {R' : Type} {q : cL} (hst : q.1.stackTraces = false) {D : Nat} (hD : 2 ≤ D) (F : Nat) : ∀ x ∈ (ca_X3_heldOf (R' := R') F), 1 ≤ D ∧ ceS q RX3 (D - 1) x.1 x.2 := List.forall_mem_cons.mpr ⟨⟨by omega, n_X4_holds_ok (k := 121) (lw_good_of (tb_ok 972 (by decide +kernel)) rfl) (fun a0 a1 M r h => c_X4_holds hst (by omega) F a0 a1 M r h)⟩, fun _ h => absurd h List.not_mem_nil⟩
def kd_X3_heldOf_4 (g : Nat → Int32 → Int32 → Int32 → cM → Option (Int32 × cM)) : cKf (Int32 × cM) := fun vs st M => (lR vs 0).bind fun x0 => (lI vs 1).bind fun x1 => (lI vs 2).bind fun x2 => (lI vs 3).bind fun x3 => match st with
  | [] => g x0 x1 x2 x3 M
  | _ => none
theorem kf_X3_heldOf_4 {X : cCtx} {o : cO} {r : Int32 × cM} {g : Nat → Int32 → Int32 → Int32 → cM → Option (Int32 × cM)} (hg : ∀ x0 x1 x2 x3 M, g x0 x1 x2 x3 M = some r → WX X 4 o 4 [some (.ref x0), some (.int x1), some (.int x2), some (.int x3)] [] M) : ∀ vs st M, kd_X3_heldOf_4 g vs st M = some r → WX X 4 o 4 vs st M := by
  intro vs st M h
  unfold kd_X3_heldOf_4 at h
  obtain ⟨x0, h0, h⟩ := Option.bind_eq_some_iff.mp h
  obtain ⟨x1, h1, h⟩ := Option.bind_eq_some_iff.mp h
  obtain ⟨x2, h2, h⟩ := Option.bind_eq_some_iff.mp h
  obtain ⟨x3, h3, h⟩ := Option.bind_eq_some_iff.mp h
  split at h
  · exact WX_weak (hg _ _ _ _ _ h) rfl ⟨lR_of h0, lI_of h1, lI_of h2, lI_of h3, trivial⟩
  · cases h
theorem e_X3_heldOf_4 (F : Nat) (t4 : Nat → Int32 → Int32 → Int32 → cM → Option (Int32 × cM)) (x0 : Nat) (x1 : Int32) (x2 : Int32) (x3 : Int32) (M : cM) : b_X3_heldOf_4 F t4 x0 x1 x2 x3 M = run T_X3_heldOf P_RX3 false 0 (naL na_X3_heldOf) (caL (ca_X3_heldOf F)) (lkN th_X3_heldOf) (lkN sw_X3_heldOf) krI kxN (spL [4]) (KL [(4, kd_X3_heldOf_4 t4)]) 31 4 [some (.ref x0), some (.int x1), some (.int x2), some (.int x3)] [] M := rfl
theorem ok_X3_heldOf_4 {X : cCtx} {D : Nat} {r : Int32 × cM} (G : FX X 4 (eI r) cX3_heldOf RX3 0 D) {F : Nat} (hca : ∀ x ∈ (ca_X3_heldOf (R' := Int32 × cM) F), 1 ≤ D ∧ ceS X.1 RX3 (D - 1) x.1 x.2) (n : Nat) : ∀ x0 x1 x2 x3 M, f_X3_heldOf_4 F n x0 x1 x2 x3 M = some r → WX X 4 (eI r) 4 [some (.ref x0), some (.int x1), some (.int x2), some (.int x3)] [] M := by
  induction n with
  | zero => intro x0 x1 x2 x3 M h; cases h
  | succ n ih =>
    intro x0 x1 x2 x3 M h
    exact seg_ok G P_RX3_ok T_X3_heldOf_ok hca (fun _ h => absurd h List.not_mem_nil) sw_X3_heldOf_ok krI_ok (kxN_ok (f := eI)) (List.forall_mem_cons.mpr ⟨kf_X3_heldOf_4 (ih), fun _ h => absurd h List.not_mem_nil⟩) ((e_X3_heldOf_4 F (f_X3_heldOf_4 F n) x0 x1 x2 x3 M).symm.trans h)
theorem e_X3_heldOf_0 (F : Nat) (t4 : Nat → Int32 → Int32 → Int32 → cM → Option (Int32 × cM)) (x0 : Nat) (x1 : Int32) (M : cM) : b_X3_heldOf_0 F t4 x0 x1 M = run T_X3_heldOf P_RX3 false 0 (naL na_X3_heldOf) (caL (ca_X3_heldOf F)) (lkN th_X3_heldOf) (lkN sw_X3_heldOf) krI kxN (spL [4]) (KL [(4, kd_X3_heldOf_4 t4)]) 31 0 [some (.ref x0), some (.int x1), none, none] [] M := rfl
theorem ok_X3_heldOf_0 {X : cCtx} {D : Nat} {r : Int32 × cM} (G : FX X 4 (eI r) cX3_heldOf RX3 0 D) {F : Nat} (hca : ∀ x ∈ (ca_X3_heldOf (R' := Int32 × cM) F), 1 ≤ D ∧ ceS X.1 RX3 (D - 1) x.1 x.2) : ∀ x0 x1 M, f_X3_heldOf_0 F x0 x1 M = some r → WX X 4 (eI r) 0 [some (.ref x0), some (.int x1), none, none] [] M := by
  intro x0 x1 M h
  exact seg_ok G P_RX3_ok T_X3_heldOf_ok hca (fun _ h => absurd h List.not_mem_nil) sw_X3_heldOf_ok krI_ok (kxN_ok (f := eI)) (List.forall_mem_cons.mpr ⟨kf_X3_heldOf_4 (ok_X3_heldOf_4 G hca F), fun _ h => absurd h List.not_mem_nil⟩) ((e_X3_heldOf_0 F (f_X3_heldOf_4 F F) x0 x1 M).symm.trans h)
theorem c_X3_heldOf {q : cL} (hst : q.1.stackTraces = false) {D : Nat} (hD : 2 ≤ D) (F : Nat) (a0 : Nat) (a1 : Int32) (M : cM) (r : Int32 × cM) (h : f_X3_heldOf F a0 a1 M = some r) : CTx q yX3_heldOf (.code yX3_heldOf cX3_heldOf 4 (some .int)) D [.ref a0, .int a1] M (eI r) := by
  exact CTx_of (own := RX3) (rk := 0) hst (by decide +kernel) rfl (rfl) (Nat.le_of_ble_eq_true rfl) (fun X hX G => by subst hX; exact ok_X3_heldOf_0 G (ca_X3_heldOf_ok hst hD F) a0 a1 M h)
def n_X3_heldOf {R' : Type} (f : Nat → Int32 → cM → Option (Int32 × cM)) : cFn R' := fun as M κ κx => match as with
  | [.ref a0, .int a1] => (f a0 a1 M).bind fun p => κ (some (.int p.1)) p.2
  | _ => none
theorem w_X3_heldOf : ∀ w ∈ [Cond.static yX3_heldOf, .initialized yX3_heldOf.cls, .code yX3_heldOf cX3_heldOf 4 (some .int)], w ∈ lw_good := List.forall_mem_cons.mpr ⟨lw_good_of (tb_ok 970 (by decide +kernel)) rfl, List.forall_mem_cons.mpr ⟨lw_good_of (tb_ok 7 (by decide +kernel)) rfl, List.forall_mem_cons.mpr ⟨lw_good_of (tb_ok 971 (by decide +kernel)) rfl, fun _ h => absurd h List.not_mem_nil⟩⟩⟩
theorem n_X3_heldOf_ok {R' : Type} {q : cL} {own : String} {d k : Nat} {f : Nat → Int32 → cM → Option (Int32 × cM)} (hl : Cond.methodLink own k yX3_heldOf ∈ lw_good) (hf : ∀ a0 a1 M r, f a0 a1 M = some r → CTx q yX3_heldOf (.code yX3_heldOf cX3_heldOf 4 (some .int)) d [.ref a0, .int a1] M (eI r)) : ceS q own d (3 * k) (n_X3_heldOf (R' := R') f) := by
  intro as M κ κx r h
  unfold n_X3_heldOf at h
  split at h
  · obtain ⟨p, h1, h2⟩ := Option.bind_eq_some_iff.mp h
    exact ⟨eI p, fun _ => h2, fun hne => absurd rfl hne, Or.inl ⟨yX3_heldOf, cX3_heldOf, 4, (some .int), k, 2, rfl, hf _ _ _ _ h1, List.forall_mem_cons.mpr ⟨hl, w_X3_heldOf⟩, ⟨by decide +kernel, by decide +kernel, by decide +kernel⟩, rfl, by decide⟩⟩
  · cases h
-- PatchbayScript$Learner.isLearnable(LPatchbayScript$Task;I)Z
def T_X3_isLearnable : List cRow := [(0, .iload_n 2, 1, 0), (1, .ifCond .lt 9, 4, 10), (4, .iload_n 2, 5, 0), (5, .bipush 16, 7, 0), (7, .if_icmp .lt 5, 10, 12), (10, .iconst 0, 11, 0), (11, .ireturn, 12, 0), (12, .aload_n 0, 13, 0), (13, .getfield 24, 16, 0), (16, .iload_n 2, 17, 0), (17, .iaload, 18, 0), (18, .ifCond .ne 92, 21, 110), (21, .aload_n 0, 22, 0), (22, .getfield 24, 25, 0), (25, .iload_n 2, 26, 0), (26, .iconst 1, 27, 0), (27, .iastore, 28, 0), (28, .aload_n 0, 29, 0), (29, .getfield 12, 32, 0), (32, .iload_n 2, 33, 0), (33, .invokevirtual 58, 36, 0), (36, .iconst 0, 37, 0), (37, .istore_n 3, 38, 0), (38, .iload_n 3, 39, 0), (39, .aload_n 0, 40, 0), (40, .getfield 12, 43, 0), (43, .getfield 62, 46, 0), (46, .if_icmp .ge 64, 49, 110), (49, .aload_n 0, 50, 0), (50, .getfield 24, 53, 0), (53, .iload_n 2, 54, 0), (54, .iaload, 55, 0), (55, .iconst 1, 56, 0), (56, .if_icmp .ne 54, 59, 110), (59, .aload_n 1, 60, 0), (60, .aload_n 0, 61, 0), (61, .getfield 12, 64, 0), (64, .getfield 68, 67, 0), (67, .iload_n 3, 68, 0), (68, .aaload, 69, 0), (69, .aload_n 0, 70, 0), (70, .getfield 31, 73, 0), (73, .invokevirtual 75, 76, 0), (76, .ifCond .eq 28, 79, 104), (79, .aload_n 0, 80, 0), (80, .getfield 20, 83, 0), (83, .iload_n 2, 84, 0), (84, .aaload, 85, 0), (85, .aload_n 0, 86, 0), (86, .getfield 12, 89, 0), (89, .getfield 68, 92, 0), (92, .iload_n 3, 93, 0), (93, .aaload, 94, 0), (94, .invokevirtual 71, 97, 0), (97, .aload_n 0, 98, 0), (98, .getfield 24, 101, 0), (101, .iload_n 2, 102, 0), (102, .iconst 2, 103, 0), (103, .iastore, 104, 0), (104, .iinc 3 1, 107, 0), (107, .goto (-69), 110, 38), (110, .aload_n 0, 111, 0), (111, .getfield 24, 114, 0), (114, .iload_n 2, 115, 0), (115, .iaload, 116, 0), (116, .iconst 2, 117, 0), (117, .if_icmp .ne 7, 120, 124), (120, .iconst 1, 121, 0), (121, .goto 4, 124, 125), (124, .iconst 0, 125, 0), (125, .ireturn, 126, 0)]
theorem T_X3_isLearnable_ok : T_X3_isLearnable.all (rowB cX3_isLearnable) = true := by decide +kernel
def th_X3_isLearnable : List (Nat × Nat) := []
def sw_X3_isLearnable : List (Nat × (List (Int32 × Nat) × Nat)) := []
theorem sw_X3_isLearnable_ok : ∀ q ∈ sw_X3_isLearnable, swS cX3_isLearnable q := fun _ h => absurd h List.not_mem_nil
def na_X3_isLearnable : List (Nat × Nat) := [(175, 2), (226, 3), (214, 2)]
def ca_X3_isLearnable {R' : Type} (F : Nat) : List (Nat × cFn R') := [(175, n_X2_find (f_X2_find F)), (226, n_X9_bears (f_X9_bears F)), (214, n_X6_set (f_X6_set F))]
theorem ca_X3_isLearnable_ok {R' : Type} {q : cL} (hst : q.1.stackTraces = false) {D : Nat} (hD : 49 ≤ D) (F : Nat) : ∀ x ∈ (ca_X3_isLearnable (R' := R') F), 1 ≤ D ∧ ceS q RX3 (D - 1) x.1 x.2 := List.forall_mem_cons.mpr ⟨⟨by omega, n_X2_find_ok (k := 58) (lw_good_of (tb_ok 800 (by decide +kernel)) rfl) (fun a0 a1 M r h => c_X2_find hst (by omega) F a0 a1 M r h)⟩, List.forall_mem_cons.mpr ⟨⟨by omega, n_X9_bears_ok (k := 75) (lw_good_of (tb_ok 948 (by decide +kernel)) rfl) (fun a0 a1 a2 M r h => c_X9_bears hst (by omega) F a0 a1 a2 M r h)⟩, List.forall_mem_cons.mpr ⟨⟨by omega, n_X6_set_ok (k := 71) (lw_good_of (tb_ok 943 (by decide +kernel)) rfl) (fun a0 a1 M r h => c_X6_set hst (by omega) F a0 a1 M r h)⟩, fun _ h => absurd h List.not_mem_nil⟩⟩⟩
def kd_X3_isLearnable_38 (g : Nat → Nat → Int32 → Int32 → cM → Option (Int32 × cM)) : cKf (Int32 × cM) := fun vs st M => (lR vs 0).bind fun x0 => (lR vs 1).bind fun x1 => (lI vs 2).bind fun x2 => (lI vs 3).bind fun x3 => match st with
  | [] => g x0 x1 x2 x3 M
  | _ => none
theorem kf_X3_isLearnable_38 {X : cCtx} {o : cO} {r : Int32 × cM} {g : Nat → Nat → Int32 → Int32 → cM → Option (Int32 × cM)} (hg : ∀ x0 x1 x2 x3 M, g x0 x1 x2 x3 M = some r → WX X 4 o 38 [some (.ref x0), some (.ref x1), some (.int x2), some (.int x3)] [] M) : ∀ vs st M, kd_X3_isLearnable_38 g vs st M = some r → WX X 4 o 38 vs st M := by
  intro vs st M h
  unfold kd_X3_isLearnable_38 at h
  obtain ⟨x0, h0, h⟩ := Option.bind_eq_some_iff.mp h
  obtain ⟨x1, h1, h⟩ := Option.bind_eq_some_iff.mp h
  obtain ⟨x2, h2, h⟩ := Option.bind_eq_some_iff.mp h
  obtain ⟨x3, h3, h⟩ := Option.bind_eq_some_iff.mp h
  split at h
  · exact WX_weak (hg _ _ _ _ _ h) rfl ⟨lR_of h0, lR_of h1, lI_of h2, lI_of h3, trivial⟩
  · cases h
def kd_X3_isLearnable_110 (g : Nat → Int32 → cM → Option (Int32 × cM)) : cKf (Int32 × cM) := fun vs st M => (lR vs 0).bind fun x0 => (lI vs 2).bind fun x2 => match st with
  | [] => g x0 x2 M
  | _ => none
theorem kf_X3_isLearnable_110 {X : cCtx} {o : cO} {r : Int32 × cM} {g : Nat → Int32 → cM → Option (Int32 × cM)} (hg : ∀ x0 x2 M, g x0 x2 M = some r → WX X 4 o 110 [some (.ref x0), none, some (.int x2), none] [] M) : ∀ vs st M, kd_X3_isLearnable_110 g vs st M = some r → WX X 4 o 110 vs st M := by
  intro vs st M h
  unfold kd_X3_isLearnable_110 at h
  obtain ⟨x0, h0, h⟩ := Option.bind_eq_some_iff.mp h
  obtain ⟨x2, h2, h⟩ := Option.bind_eq_some_iff.mp h
  split at h
  · exact WX_weak (hg _ _ _ h) rfl ⟨lR_of h0, lI_of h2, trivial⟩
  · cases h
theorem e_X3_isLearnable_110 (F : Nat) (x0 : Nat) (x2 : Int32) (M : cM) : b_X3_isLearnable_110 F x0 x2 M = run T_X3_isLearnable P_RX3 false 1 (naL na_X3_isLearnable) (caL (ca_X3_isLearnable F)) (lkN th_X3_isLearnable) (lkN sw_X3_isLearnable) krI kxN (spL []) (KL []) 74 110 [some (.ref x0), none, some (.int x2), none] [] M := rfl
theorem ok_X3_isLearnable_110 {X : cCtx} {D : Nat} {r : Int32 × cM} (G : FX X 4 (eI r) cX3_isLearnable RX3 1 D) {F : Nat} (hca : ∀ x ∈ (ca_X3_isLearnable (R' := Int32 × cM) F), 1 ≤ D ∧ ceS X.1 RX3 (D - 1) x.1 x.2) : ∀ x0 x2 M, f_X3_isLearnable_110 F x0 x2 M = some r → WX X 4 (eI r) 110 [some (.ref x0), none, some (.int x2), none] [] M := by
  intro x0 x2 M h
  exact seg_ok G P_RX3_ok T_X3_isLearnable_ok hca (fun _ h => absurd h List.not_mem_nil) sw_X3_isLearnable_ok krI_ok (kxN_ok (f := eI)) (fun _ h => absurd h List.not_mem_nil) ((e_X3_isLearnable_110 F x0 x2 M).symm.trans h)
theorem e_X3_isLearnable_38 (F : Nat) (t38 : Nat → Nat → Int32 → Int32 → cM → Option (Int32 × cM)) (t110 : Nat → Int32 → cM → Option (Int32 × cM)) (x0 : Nat) (x1 : Nat) (x2 : Int32) (x3 : Int32) (M : cM) : b_X3_isLearnable_38 F t38 t110 x0 x1 x2 x3 M = run T_X3_isLearnable P_RX3 false 1 (naL na_X3_isLearnable) (caL (ca_X3_isLearnable F)) (lkN th_X3_isLearnable) (lkN sw_X3_isLearnable) krI kxN (spL [38, 110]) (KL [(38, kd_X3_isLearnable_38 t38), (110, kd_X3_isLearnable_110 t110)]) 74 38 [some (.ref x0), some (.ref x1), some (.int x2), some (.int x3)] [] M := rfl
theorem ok_X3_isLearnable_38 {X : cCtx} {D : Nat} {r : Int32 × cM} (G : FX X 4 (eI r) cX3_isLearnable RX3 1 D) {F : Nat} (hca : ∀ x ∈ (ca_X3_isLearnable (R' := Int32 × cM) F), 1 ≤ D ∧ ceS X.1 RX3 (D - 1) x.1 x.2) (n : Nat) : ∀ x0 x1 x2 x3 M, f_X3_isLearnable_38 F n x0 x1 x2 x3 M = some r → WX X 4 (eI r) 38 [some (.ref x0), some (.ref x1), some (.int x2), some (.int x3)] [] M := by
  induction n with
  | zero => intro x0 x1 x2 x3 M h; cases h
  | succ n ih =>
    intro x0 x1 x2 x3 M h
    exact seg_ok G P_RX3_ok T_X3_isLearnable_ok hca (fun _ h => absurd h List.not_mem_nil) sw_X3_isLearnable_ok krI_ok (kxN_ok (f := eI)) (List.forall_mem_cons.mpr ⟨kf_X3_isLearnable_38 (ih), List.forall_mem_cons.mpr ⟨kf_X3_isLearnable_110 (ok_X3_isLearnable_110 G hca), fun _ h => absurd h List.not_mem_nil⟩⟩) ((e_X3_isLearnable_38 F (f_X3_isLearnable_38 F n) (f_X3_isLearnable_110 F) x0 x1 x2 x3 M).symm.trans h)
theorem e_X3_isLearnable_0 (F : Nat) (t38 : Nat → Nat → Int32 → Int32 → cM → Option (Int32 × cM)) (t110 : Nat → Int32 → cM → Option (Int32 × cM)) (x0 : Nat) (x1 : Nat) (x2 : Int32) (M : cM) : b_X3_isLearnable_0 F t38 t110 x0 x1 x2 M = run T_X3_isLearnable P_RX3 false 1 (naL na_X3_isLearnable) (caL (ca_X3_isLearnable F)) (lkN th_X3_isLearnable) (lkN sw_X3_isLearnable) krI kxN (spL [38, 110]) (KL [(38, kd_X3_isLearnable_38 t38), (110, kd_X3_isLearnable_110 t110)]) 74 0 [some (.ref x0), some (.ref x1), some (.int x2), none] [] M := rfl
theorem ok_X3_isLearnable_0 {X : cCtx} {D : Nat} {r : Int32 × cM} (G : FX X 4 (eI r) cX3_isLearnable RX3 1 D) {F : Nat} (hca : ∀ x ∈ (ca_X3_isLearnable (R' := Int32 × cM) F), 1 ≤ D ∧ ceS X.1 RX3 (D - 1) x.1 x.2) : ∀ x0 x1 x2 M, f_X3_isLearnable_0 F x0 x1 x2 M = some r → WX X 4 (eI r) 0 [some (.ref x0), some (.ref x1), some (.int x2), none] [] M := by
  intro x0 x1 x2 M h
  exact seg_ok G P_RX3_ok T_X3_isLearnable_ok hca (fun _ h => absurd h List.not_mem_nil) sw_X3_isLearnable_ok krI_ok (kxN_ok (f := eI)) (List.forall_mem_cons.mpr ⟨kf_X3_isLearnable_38 (ok_X3_isLearnable_38 G hca F), List.forall_mem_cons.mpr ⟨kf_X3_isLearnable_110 (ok_X3_isLearnable_110 G hca), fun _ h => absurd h List.not_mem_nil⟩⟩) ((e_X3_isLearnable_0 F (f_X3_isLearnable_38 F F) (f_X3_isLearnable_110 F) x0 x1 x2 M).symm.trans h)
theorem c_X3_isLearnable {q : cL} (hst : q.1.stackTraces = false) {D : Nat} (hD : 49 ≤ D) (F : Nat) (a0 : Nat) (a1 : Nat) (a2 : Int32) (M : cM) (r : Int32 × cM) (h : f_X3_isLearnable F a0 a1 a2 M = some r) : CTx q yX3_isLearnable (.code yX3_isLearnable cX3_isLearnable 4 (some .boolean)) D [.ref a0, .ref a1, .int a2] M (eI r) ∧ ∃ fs, M[a0]? = some (.inr (2, fs)) := by
  unfold f_X3_isLearnable at h
  split at h
  · next hi => exact ⟨CTx_of (own := RX3) (rk := 1) hst (by decide +kernel) rfl (rfl) (Nat.le_of_ble_eq_true rfl) (fun X hX G => by subst hX; exact ok_X3_isLearnable_0 G (ca_X3_isLearnable_ok hst hD F) a0 a1 a2 M h), isC_of hi⟩
  · cases h
def n_X3_isLearnable {R' : Type} (f : Nat → Nat → Int32 → cM → Option (Int32 × cM)) : cFn R' := fun as M κ κx => match as with
  | [.ref a0, .ref a1, .int a2] => (f a0 a1 a2 M).bind fun p => κ (some (.int p.1)) p.2
  | _ => none
theorem w_X3_isLearnable : ∀ w ∈ [Cond.instanceMethod yX3_isLearnable, .selects yX3_isLearnable.cls yX3_isLearnable yX3_isLearnable, .initialized yX3_isLearnable.cls, .code yX3_isLearnable cX3_isLearnable 4 (some .boolean)], w ∈ lw_good := List.forall_mem_cons.mpr ⟨lw_good_of (tb_ok 975 (by decide +kernel)) rfl, List.forall_mem_cons.mpr ⟨lw_good_of (ts_ok 27 (by decide +kernel)) rfl, List.forall_mem_cons.mpr ⟨lw_good_of (tb_ok 7 (by decide +kernel)) rfl, List.forall_mem_cons.mpr ⟨lw_good_of (tb_ok 976 (by decide +kernel)) rfl, fun _ h => absurd h List.not_mem_nil⟩⟩⟩⟩
theorem n_X3_isLearnable_ok {R' : Type} {q : cL} {own : String} {d k : Nat} {f : Nat → Nat → Int32 → cM → Option (Int32 × cM)} (hl : Cond.methodLink own k yX3_isLearnable ∈ lw_good) (hf : ∀ a0 a1 a2 M r, f a0 a1 a2 M = some r → CTx q yX3_isLearnable (.code yX3_isLearnable cX3_isLearnable 4 (some .boolean)) d [.ref a0, .ref a1, .int a2] M (eI r) ∧ ∃ fs, M[a0]? = some (.inr (2, fs))) : ceS q own d (3 * k + 1) (n_X3_isLearnable (R' := R') f) := by
  intro as M κ κx r h
  unfold n_X3_isLearnable at h
  split at h
  · obtain ⟨p, h1, h2⟩ := Option.bind_eq_some_iff.mp h
    obtain ⟨hc, fs, ha⟩ := hf _ _ _ _ _ h1
    exact ⟨eI p, fun _ => h2, fun hne => absurd rfl hne, Or.inr (Or.inl ⟨yX3_isLearnable, cX3_isLearnable, 4, (some .boolean), k, 2, _, _, 2, TX3, 5, fs, rfl, rfl, hc, ha, rfl, List.forall_mem_cons.mpr ⟨hl, w_X3_isLearnable⟩, ⟨rfl, by decide +kernel, by decide +kernel, by decide +kernel⟩, rfl, by decide⟩)⟩
  · cases h
-- PatchbayScript$Program.sum()I
def T_X6_sum : List cRow := [(0, .iconst 0, 1, 0), (1, .istore_n 1, 2, 0), (2, .iconst 0, 3, 0), (3, .istore_n 2, 4, 0), (4, .iload_n 2, 5, 0), (5, .aload_n 0, 6, 0), (6, .getfield 15, 9, 0), (9, .if_icmp .ge 26, 12, 35), (12, .iload_n 2, 13, 0), (13, .iconst 4, 14, 0), (14, .if_icmp .ge 21, 17, 35), (17, .iload_n 1, 18, 0), (18, .aload_n 0, 19, 0), (19, .getfield 9, 22, 0), (22, .iload_n 2, 23, 0), (23, .iaload, 24, 0), (24, .invokestatic 25, 27, 0), (27, .iadd, 28, 0), (28, .istore_n 1, 29, 0), (29, .iinc 2 1, 32, 0), (32, .goto (-28), 35, 4), (35, .iload_n 1, 36, 0), (36, .ireturn, 37, 0)]
theorem T_X6_sum_ok : T_X6_sum.all (rowB cX6_sum) = true := by decide +kernel
def th_X6_sum : List (Nat × Nat) := []
def sw_X6_sum : List (Nat × (List (Int32 × Nat) × Nat)) := []
theorem sw_X6_sum_ok : ∀ q ∈ sw_X6_sum, swS cX6_sum q := fun _ h => absurd h List.not_mem_nil
def na_X6_sum : List (Nat × Nat) := [(75, 1)]
def ca_X6_sum {R' : Type} (F : Nat) : List (Nat × cFn R') := [(75, n_X0_weightOf (f_X0_weightOf F))]
theorem ca_X6_sum_ok {R' : Type} {q : cL} (hst : q.1.stackTraces = false) {D : Nat} (hD : 3 ≤ D) (F : Nat) : ∀ x ∈ (ca_X6_sum (R' := R') F), 1 ≤ D ∧ ceS q RX6 (D - 1) x.1 x.2 := List.forall_mem_cons.mpr ⟨⟨by omega, n_X0_weightOf_ok (k := 25) (lw_good_of (tb_ok 981 (by decide +kernel)) rfl) (fun a0 M r h => c_X0_weightOf hst (by omega) F a0 M r h)⟩, fun _ h => absurd h List.not_mem_nil⟩
def kd_X6_sum_4 (g : Nat → Int32 → Int32 → cM → Option (Int32 × cM)) : cKf (Int32 × cM) := fun vs st M => (lR vs 0).bind fun x0 => (lI vs 1).bind fun x1 => (lI vs 2).bind fun x2 => match st with
  | [] => g x0 x1 x2 M
  | _ => none
theorem kf_X6_sum_4 {X : cCtx} {o : cO} {r : Int32 × cM} {g : Nat → Int32 → Int32 → cM → Option (Int32 × cM)} (hg : ∀ x0 x1 x2 M, g x0 x1 x2 M = some r → WX X 3 o 4 [some (.ref x0), some (.int x1), some (.int x2)] [] M) : ∀ vs st M, kd_X6_sum_4 g vs st M = some r → WX X 3 o 4 vs st M := by
  intro vs st M h
  unfold kd_X6_sum_4 at h
  obtain ⟨x0, h0, h⟩ := Option.bind_eq_some_iff.mp h
  obtain ⟨x1, h1, h⟩ := Option.bind_eq_some_iff.mp h
  obtain ⟨x2, h2, h⟩ := Option.bind_eq_some_iff.mp h
  split at h
  · exact WX_weak (hg _ _ _ _ h) rfl ⟨lR_of h0, lI_of h1, lI_of h2, trivial⟩
  · cases h
theorem e_X6_sum_4 (F : Nat) (t4 : Nat → Int32 → Int32 → cM → Option (Int32 × cM)) (x0 : Nat) (x1 : Int32) (x2 : Int32) (M : cM) : b_X6_sum_4 F t4 x0 x1 x2 M = run T_X6_sum P_RX6 false 0 (naL na_X6_sum) (caL (ca_X6_sum F)) (lkN th_X6_sum) (lkN sw_X6_sum) krI kxN (spL [4]) (KL [(4, kd_X6_sum_4 t4)]) 26 4 [some (.ref x0), some (.int x1), some (.int x2)] [] M := rfl
theorem ok_X6_sum_4 {X : cCtx} {D : Nat} {r : Int32 × cM} (G : FX X 3 (eI r) cX6_sum RX6 0 D) {F : Nat} (hca : ∀ x ∈ (ca_X6_sum (R' := Int32 × cM) F), 1 ≤ D ∧ ceS X.1 RX6 (D - 1) x.1 x.2) (n : Nat) : ∀ x0 x1 x2 M, f_X6_sum_4 F n x0 x1 x2 M = some r → WX X 3 (eI r) 4 [some (.ref x0), some (.int x1), some (.int x2)] [] M := by
  induction n with
  | zero => intro x0 x1 x2 M h; cases h
  | succ n ih =>
    intro x0 x1 x2 M h
    exact seg_ok G P_RX6_ok T_X6_sum_ok hca (fun _ h => absurd h List.not_mem_nil) sw_X6_sum_ok krI_ok (kxN_ok (f := eI)) (List.forall_mem_cons.mpr ⟨kf_X6_sum_4 (ih), fun _ h => absurd h List.not_mem_nil⟩) ((e_X6_sum_4 F (f_X6_sum_4 F n) x0 x1 x2 M).symm.trans h)
theorem e_X6_sum_0 (F : Nat) (t4 : Nat → Int32 → Int32 → cM → Option (Int32 × cM)) (x0 : Nat) (M : cM) : b_X6_sum_0 F t4 x0 M = run T_X6_sum P_RX6 false 0 (naL na_X6_sum) (caL (ca_X6_sum F)) (lkN th_X6_sum) (lkN sw_X6_sum) krI kxN (spL [4]) (KL [(4, kd_X6_sum_4 t4)]) 26 0 [some (.ref x0), none, none] [] M := rfl
theorem ok_X6_sum_0 {X : cCtx} {D : Nat} {r : Int32 × cM} (G : FX X 3 (eI r) cX6_sum RX6 0 D) {F : Nat} (hca : ∀ x ∈ (ca_X6_sum (R' := Int32 × cM) F), 1 ≤ D ∧ ceS X.1 RX6 (D - 1) x.1 x.2) : ∀ x0 M, f_X6_sum_0 F x0 M = some r → WX X 3 (eI r) 0 [some (.ref x0), none, none] [] M := by
  intro x0 M h
  exact seg_ok G P_RX6_ok T_X6_sum_ok hca (fun _ h => absurd h List.not_mem_nil) sw_X6_sum_ok krI_ok (kxN_ok (f := eI)) (List.forall_mem_cons.mpr ⟨kf_X6_sum_4 (ok_X6_sum_4 G hca F), fun _ h => absurd h List.not_mem_nil⟩) ((e_X6_sum_0 F (f_X6_sum_4 F F) x0 M).symm.trans h)
theorem c_X6_sum {q : cL} (hst : q.1.stackTraces = false) {D : Nat} (hD : 3 ≤ D) (F : Nat) (a0 : Nat) (M : cM) (r : Int32 × cM) (h : f_X6_sum F a0 M = some r) : CTx q yX6_sum (.code yX6_sum cX6_sum 3 (some .int)) D [.ref a0] M (eI r) ∧ ∃ fs, M[a0]? = some (.inr (5, fs)) := by
  unfold f_X6_sum at h
  split at h
  · next hi => exact ⟨CTx_of (own := RX6) (rk := 0) hst (by decide +kernel) rfl (rfl) (Nat.le_of_ble_eq_true rfl) (fun X hX G => by subst hX; exact ok_X6_sum_0 G (ca_X6_sum_ok hst hD F) a0 M h), isC_of hi⟩
  · cases h
def n_X6_sum {R' : Type} (f : Nat → cM → Option (Int32 × cM)) : cFn R' := fun as M κ κx => match as with
  | [.ref a0] => (f a0 M).bind fun p => κ (some (.int p.1)) p.2
  | _ => none
theorem w_X6_sum : ∀ w ∈ [Cond.instanceMethod yX6_sum, .selects yX6_sum.cls yX6_sum yX6_sum, .initialized yX6_sum.cls, .code yX6_sum cX6_sum 3 (some .int)], w ∈ lw_good := List.forall_mem_cons.mpr ⟨lw_good_of (tb_ok 978 (by decide +kernel)) rfl, List.forall_mem_cons.mpr ⟨lw_good_of (tb_ok 979 (by decide +kernel)) rfl, List.forall_mem_cons.mpr ⟨lw_good_of (tb_ok 5 (by decide +kernel)) rfl, List.forall_mem_cons.mpr ⟨lw_good_of (tb_ok 980 (by decide +kernel)) rfl, fun _ h => absurd h List.not_mem_nil⟩⟩⟩⟩
theorem n_X6_sum_ok {R' : Type} {q : cL} {own : String} {d k : Nat} {f : Nat → cM → Option (Int32 × cM)} (hl : Cond.methodLink own k yX6_sum ∈ lw_good) (hf : ∀ a0 M r, f a0 M = some r → CTx q yX6_sum (.code yX6_sum cX6_sum 3 (some .int)) d [.ref a0] M (eI r) ∧ ∃ fs, M[a0]? = some (.inr (5, fs))) : ceS q own d (3 * k + 1) (n_X6_sum (R' := R') f) := by
  intro as M κ κx r h
  unfold n_X6_sum at h
  split at h
  · obtain ⟨p, h1, h2⟩ := Option.bind_eq_some_iff.mp h
    obtain ⟨hc, fs, ha⟩ := hf _ _ _ h1
    exact ⟨eI p, fun _ => h2, fun hne => absurd rfl hne, Or.inr (Or.inl ⟨yX6_sum, cX6_sum, 3, (some .int), k, 0, _, _, 5, TX6, 2, fs, rfl, rfl, hc, ha, rfl, List.forall_mem_cons.mpr ⟨hl, w_X6_sum⟩, ⟨rfl, by decide +kernel, by decide +kernel, by decide +kernel⟩, rfl, by decide⟩)⟩
  · cases h
-- PatchbayScript$Learnt.sum()I
def T_X4_sum : List cRow := [(0, .aload_n 0, 1, 0), (1, .getfield 21, 4, 0), (4, .iconst (-1), 5, 0), (5, .if_icmp .ne 13, 8, 18), (8, .aload_n 0, 9, 0), (9, .getfield 12, 12, 0), (12, .invokevirtual 55, 15, 0), (15, .goto 18, 18, 33), (18, .aload_n 0, 19, 0), (19, .getfield 12, 22, 0), (22, .invokevirtual 55, 25, 0), (25, .aload_n 0, 26, 0), (26, .getfield 18, 29, 0), (29, .invokevirtual 55, 32, 0), (32, .iadd, 33, 0), (33, .ireturn, 34, 0)]
theorem T_X4_sum_ok : T_X4_sum.all (rowB cX4_sum) = true := by decide +kernel
def th_X4_sum : List (Nat × Nat) := []
def sw_X4_sum : List (Nat × (List (Int32 × Nat) × Nat)) := []
theorem sw_X4_sum_ok : ∀ q ∈ sw_X4_sum, swS cX4_sum q := fun _ h => absurd h List.not_mem_nil
def na_X4_sum : List (Nat × Nat) := [(166, 1)]
def ca_X4_sum {R' : Type} (F : Nat) : List (Nat × cFn R') := [(166, n_X6_sum (f_X6_sum F))]
theorem ca_X4_sum_ok {R' : Type} {q : cL} (hst : q.1.stackTraces = false) {D : Nat} (hD : 4 ≤ D) (F : Nat) : ∀ x ∈ (ca_X4_sum (R' := R') F), 1 ≤ D ∧ ceS q RX4 (D - 1) x.1 x.2 := List.forall_mem_cons.mpr ⟨⟨by omega, n_X6_sum_ok (k := 55) (lw_good_of (tb_ok 986 (by decide +kernel)) rfl) (fun a0 M r h => c_X6_sum hst (by omega) F a0 M r h)⟩, fun _ h => absurd h List.not_mem_nil⟩
theorem e_X4_sum_0 (F : Nat) (x0 : Nat) (M : cM) : b_X4_sum_0 F x0 M = run T_X4_sum P_RX4 false 0 (naL na_X4_sum) (caL (ca_X4_sum F)) (lkN th_X4_sum) (lkN sw_X4_sum) krI kxN (spL []) (KL []) 19 0 [some (.ref x0)] [] M := rfl
theorem ok_X4_sum_0 {X : cCtx} {D : Nat} {r : Int32 × cM} (G : FX X 1 (eI r) cX4_sum RX4 0 D) {F : Nat} (hca : ∀ x ∈ (ca_X4_sum (R' := Int32 × cM) F), 1 ≤ D ∧ ceS X.1 RX4 (D - 1) x.1 x.2) : ∀ x0 M, f_X4_sum_0 F x0 M = some r → WX X 1 (eI r) 0 [some (.ref x0)] [] M := by
  intro x0 M h
  exact seg_ok G P_RX4_ok T_X4_sum_ok hca (fun _ h => absurd h List.not_mem_nil) sw_X4_sum_ok krI_ok (kxN_ok (f := eI)) (fun _ h => absurd h List.not_mem_nil) ((e_X4_sum_0 F x0 M).symm.trans h)
theorem c_X4_sum {q : cL} (hst : q.1.stackTraces = false) {D : Nat} (hD : 4 ≤ D) (F : Nat) (a0 : Nat) (M : cM) (r : Int32 × cM) (h : f_X4_sum F a0 M = some r) : CTx q yX4_sum (.code yX4_sum cX4_sum 1 (some .int)) D [.ref a0] M (eI r) ∧ ∃ fs, M[a0]? = some (.inr (3, fs)) := by
  unfold f_X4_sum at h
  split at h
  · next hi => exact ⟨CTx_of (own := RX4) (rk := 0) hst (by decide +kernel) rfl (rfl) (Nat.le_of_ble_eq_true rfl) (fun X hX G => by subst hX; exact ok_X4_sum_0 G (ca_X4_sum_ok hst hD F) a0 M h), isC_of hi⟩
  · cases h
def n_X4_sum {R' : Type} (f : Nat → cM → Option (Int32 × cM)) : cFn R' := fun as M κ κx => match as with
  | [.ref a0] => (f a0 M).bind fun p => κ (some (.int p.1)) p.2
  | _ => none
theorem w_X4_sum : ∀ w ∈ [Cond.instanceMethod yX4_sum, .selects yX4_sum.cls yX4_sum yX4_sum, .initialized yX4_sum.cls, .code yX4_sum cX4_sum 1 (some .int)], w ∈ lw_good := List.forall_mem_cons.mpr ⟨lw_good_of (tb_ok 983 (by decide +kernel)) rfl, List.forall_mem_cons.mpr ⟨lw_good_of (tb_ok 984 (by decide +kernel)) rfl, List.forall_mem_cons.mpr ⟨lw_good_of (tb_ok 4 (by decide +kernel)) rfl, List.forall_mem_cons.mpr ⟨lw_good_of (tb_ok 985 (by decide +kernel)) rfl, fun _ h => absurd h List.not_mem_nil⟩⟩⟩⟩
theorem n_X4_sum_ok {R' : Type} {q : cL} {own : String} {d k : Nat} {f : Nat → cM → Option (Int32 × cM)} (hl : Cond.methodLink own k yX4_sum ∈ lw_good) (hf : ∀ a0 M r, f a0 M = some r → CTx q yX4_sum (.code yX4_sum cX4_sum 1 (some .int)) d [.ref a0] M (eI r) ∧ ∃ fs, M[a0]? = some (.inr (3, fs))) : ceS q own d (3 * k + 1) (n_X4_sum (R' := R') f) := by
  intro as M κ κx r h
  unfold n_X4_sum at h
  split at h
  · obtain ⟨p, h1, h2⟩ := Option.bind_eq_some_iff.mp h
    obtain ⟨hc, fs, ha⟩ := hf _ _ _ h1
    exact ⟨eI p, fun _ => h2, fun hne => absurd rfl hne, Or.inr (Or.inl ⟨yX4_sum, cX4_sum, 1, (some .int), k, 0, _, _, 3, TX4, 4, fs, rfl, rfl, hc, ha, rfl, List.forall_mem_cons.mpr ⟨hl, w_X4_sum⟩, ⟨rfl, by decide +kernel, by decide +kernel, by decide +kernel⟩, rfl, by decide⟩)⟩
  · cases h
-- PatchbayScript$Learnt.setParted(ILPatchbayScript$Program;LPatchbayScript$Program;)V
def T_X4_setParted : List cRow := [(0, .aload_n 0, 1, 0), (1, .iconst 1, 2, 0), (2, .putfield 47, 5, 0), (5, .aload_n 0, 6, 0), (6, .iload_n 1, 7, 0), (7, .putfield 21, 10, 0), (10, .aload_n 0, 11, 0), (11, .getfield 12, 14, 0), (14, .aload_n 2, 15, 0), (15, .invokevirtual 51, 18, 0), (18, .aload_n 0, 19, 0), (19, .getfield 18, 22, 0), (22, .aload_n 3, 23, 0), (23, .invokevirtual 51, 26, 0), (26, .return_, 27, 0)]
theorem T_X4_setParted_ok : T_X4_setParted.all (rowB cX4_setParted) = true := by decide +kernel
def th_X4_setParted : List (Nat × Nat) := []
def sw_X4_setParted : List (Nat × (List (Int32 × Nat) × Nat)) := []
theorem sw_X4_setParted_ok : ∀ q ∈ sw_X4_setParted, swS cX4_setParted q := fun _ h => absurd h List.not_mem_nil
def na_X4_setParted : List (Nat × Nat) := [(154, 2)]
def ca_X4_setParted {R' : Type} (F : Nat) : List (Nat × cFn R') := [(154, n_X6_set (f_X6_set F))]
theorem ca_X4_setParted_ok {R' : Type} {q : cL} (hst : q.1.stackTraces = false) {D : Nat} (hD : 1 ≤ D) (F : Nat) : ∀ x ∈ (ca_X4_setParted (R' := R') F), 1 ≤ D ∧ ceS q RX4 (D - 1) x.1 x.2 := List.forall_mem_cons.mpr ⟨⟨by omega, n_X6_set_ok (k := 51) (lw_good_of (tb_ok 546 (by decide +kernel)) rfl) (fun a0 a1 M r h => c_X6_set hst (by omega) F a0 a1 M r h)⟩, fun _ h => absurd h List.not_mem_nil⟩
theorem e_X4_setParted_0 (F : Nat) (x0 : Nat) (x1 : Int32) (x2 : Nat) (x3 : Nat) (M : cM) : b_X4_setParted_0 F x0 x1 x2 x3 M = run T_X4_setParted P_RX4 false 5 (naL na_X4_setParted) (caL (ca_X4_setParted F)) (lkN th_X4_setParted) (lkN sw_X4_setParted) krV kxN (spL []) (KL []) 18 0 [some (.ref x0), some (.int x1), some (.ref x2), some (.ref x3)] [] M := rfl
theorem ok_X4_setParted_0 {X : cCtx} {D : Nat} {r : cM} (G : FX X 4 (eV r) cX4_setParted RX4 5 D) {F : Nat} (hca : ∀ x ∈ (ca_X4_setParted (R' := cM) F), 1 ≤ D ∧ ceS X.1 RX4 (D - 1) x.1 x.2) : ∀ x0 x1 x2 x3 M, f_X4_setParted_0 F x0 x1 x2 x3 M = some r → WX X 4 (eV r) 0 [some (.ref x0), some (.int x1), some (.ref x2), some (.ref x3)] [] M := by
  intro x0 x1 x2 x3 M h
  exact seg_ok G P_RX4_ok T_X4_setParted_ok hca (fun _ h => absurd h List.not_mem_nil) sw_X4_setParted_ok krV_ok (kxN_ok (f := eV)) (fun _ h => absurd h List.not_mem_nil) ((e_X4_setParted_0 F x0 x1 x2 x3 M).symm.trans h)
theorem c_X4_setParted {q : cL} (hst : q.1.stackTraces = false) {D : Nat} (hD : 1 ≤ D) (F : Nat) (a0 : Nat) (a1 : Int32) (a2 : Nat) (a3 : Nat) (M : cM) (r : cM) (h : f_X4_setParted F a0 a1 a2 a3 M = some r) : CTx q yX4_setParted (.code yX4_setParted cX4_setParted 4 none) D [.ref a0, .int a1, .ref a2, .ref a3] M (eV r) ∧ ∃ fs, M[a0]? = some (.inr (3, fs)) := by
  unfold f_X4_setParted at h
  split at h
  · next hi => exact ⟨CTx_of (own := RX4) (rk := 5) hst (by decide +kernel) rfl (rfl) (Nat.le_of_ble_eq_true rfl) (fun X hX G => by subst hX; exact ok_X4_setParted_0 G (ca_X4_setParted_ok hst hD F) a0 a1 a2 a3 M h), isC_of hi⟩
  · cases h
def n_X4_setParted {R' : Type} (f : Nat → Int32 → Nat → Nat → cM → Option (cM)) : cFn R' := fun as M κ κx => match as with
  | [.ref a0, .int a1, .ref a2, .ref a3] => (f a0 a1 a2 a3 M).bind fun p => κ none p
  | _ => none
theorem w_X4_setParted : ∀ w ∈ [Cond.instanceMethod yX4_setParted, .selects yX4_setParted.cls yX4_setParted yX4_setParted, .initialized yX4_setParted.cls, .code yX4_setParted cX4_setParted 4 none], w ∈ lw_good := List.forall_mem_cons.mpr ⟨lw_good_of (tb_ok 988 (by decide +kernel)) rfl, List.forall_mem_cons.mpr ⟨lw_good_of (tb_ok 989 (by decide +kernel)) rfl, List.forall_mem_cons.mpr ⟨lw_good_of (tb_ok 4 (by decide +kernel)) rfl, List.forall_mem_cons.mpr ⟨lw_good_of (tb_ok 990 (by decide +kernel)) rfl, fun _ h => absurd h List.not_mem_nil⟩⟩⟩⟩
theorem n_X4_setParted_ok {R' : Type} {q : cL} {own : String} {d k : Nat} {f : Nat → Int32 → Nat → Nat → cM → Option (cM)} (hl : Cond.methodLink own k yX4_setParted ∈ lw_good) (hf : ∀ a0 a1 a2 a3 M r, f a0 a1 a2 a3 M = some r → CTx q yX4_setParted (.code yX4_setParted cX4_setParted 4 none) d [.ref a0, .int a1, .ref a2, .ref a3] M (eV r) ∧ ∃ fs, M[a0]? = some (.inr (3, fs))) : ceS q own d (3 * k + 1) (n_X4_setParted (R' := R') f) := by
  intro as M κ κx r h
  unfold n_X4_setParted at h
  split at h
  · obtain ⟨p, h1, h2⟩ := Option.bind_eq_some_iff.mp h
    obtain ⟨hc, fs, ha⟩ := hf _ _ _ _ _ _ h1
    exact ⟨eV p, fun _ => h2, fun hne => absurd rfl hne, Or.inr (Or.inl ⟨yX4_setParted, cX4_setParted, 4, none, k, 3, _, _, 3, TX4, 4, fs, rfl, rfl, hc, ha, rfl, List.forall_mem_cons.mpr ⟨hl, w_X4_setParted⟩, ⟨rfl, by decide +kernel, by decide +kernel, by decide +kernel⟩, rfl, by decide⟩)⟩
  · cases h
-- PatchbayScript$Learner.learnParted(LPatchbayScript$Task;)V
def T_X3_learnParted : List cRow := [(0, .aload_n 1, 1, 0), (1, .getfield 79, 4, 0), (4, .invokevirtual 88, 7, 0), (7, .aload_n 0, 8, 0), (8, .getfield 12, 11, 0), (11, .aload_n 1, 12, 0), (12, .invokevirtual 50, 15, 0), (15, .iconst 0, 16, 0), (16, .istore_n 2, 17, 0), (17, .iload_n 2, 18, 0), (18, .bipush 16, 20, 0), (20, .if_icmp .ge 16, 23, 36), (23, .aload_n 0, 24, 0), (24, .getfield 24, 27, 0), (27, .iload_n 2, 28, 0), (28, .iconst 0, 29, 0), (29, .iastore, 30, 0), (30, .iinc 2 1, 33, 0), (33, .goto (-16), 36, 17), (36, .aload_n 1, 37, 0), (37, .invokestatic 54, 40, 0), (40, .istore_n 2, 41, 0), (41, .iconst 0, 42, 0), (42, .istore_n 3, 43, 0), (43, .iload_n 3, 44, 0), (44, .bipush 21, 46, 0), (46, .if_icmp .ge 124, 49, 170), (49, .aload_n 1, 50, 0), (50, .iload_n 3, 51, 0), (51, .invokestatic 91, 54, 0), (54, .istore 4, 56, 0), (56, .iload_n 2, 57, 0), (57, .iload 4, 59, 0), (59, .iconst (-1), 60, 0), (60, .ixor, 61, 0), (61, .iand, 62, 0), (62, .istore 5, 64, 0), (64, .iload 4, 66, 0), (66, .ifCond .eq 98, 69, 164), (69, .iload 5, 71, 0), (71, .ifCond .eq 93, 74, 164), (74, .aload_n 0, 75, 0), (75, .aload_n 1, 76, 0), (76, .iload 4, 78, 0), (78, .invokevirtual 95, 81, 0), (81, .ifCond .eq 83, 84, 164), (84, .aload_n 0, 85, 0), (85, .aload_n 1, 86, 0), (86, .iload 5, 88, 0), (88, .invokevirtual 95, 91, 0), (91, .ifCond .ne 6, 94, 97), (94, .goto 70, 97, 164), (97, .aload_n 0, 98, 0), (98, .getfield 20, 101, 0), (101, .iload 4, 103, 0), (103, .aaload, 104, 0), (104, .invokevirtual 99, 107, 0), (107, .aload_n 0, 108, 0), (108, .getfield 20, 111, 0), (111, .iload 5, 113, 0), (113, .aaload, 114, 0), (114, .invokevirtual 99, 117, 0), (117, .iadd, 118, 0), (118, .istore 6, 120, 0), (120, .aload_n 1, 121, 0), (121, .getfield 79, 124, 0), (124, .getfield 103, 127, 0), (127, .ifCond .eq 15, 130, 142), (130, .iload 6, 132, 0), (132, .aload_n 1, 133, 0), (133, .getfield 79, 136, 0), (136, .invokevirtual 106, 139, 0), (139, .if_icmp .ge 25, 142, 164), (142, .aload_n 1, 143, 0), (143, .getfield 79, 146, 0), (146, .iload_n 3, 147, 0), (147, .aload_n 0, 148, 0), (148, .getfield 20, 151, 0), (151, .iload 4, 153, 0), (153, .aaload, 154, 0), (154, .aload_n 0, 155, 0), (155, .getfield 20, 158, 0), (158, .iload 5, 160, 0), (160, .aaload, 161, 0), (161, .invokevirtual 107, 164, 0), (164, .iinc 3 1, 167, 0), (167, .goto (-124), 170, 43), (170, .return_, 171, 0)]
theorem T_X3_learnParted_ok : T_X3_learnParted.all (rowB cX3_learnParted) = true := by decide +kernel
def th_X3_learnParted : List (Nat × Nat) := []
def sw_X3_learnParted : List (Nat × (List (Int32 × Nat) × Nat)) := []
theorem sw_X3_learnParted_ok : ∀ q ∈ sw_X3_learnParted, swS cX3_learnParted q := fun _ h => absurd h List.not_mem_nil
def na_X3_learnParted : List (Nat × Nat) := [(265, 1), (151, 2), (162, 1), (273, 2), (286, 3), (298, 1), (319, 1), (322, 4)]
def ca_X3_learnParted {R' : Type} (F : Nat) : List (Nat × cFn R') := [(265, n_X4_setNothing (f_X4_setNothing F)), (151, n_X2_lookAt (f_X2_lookAt F)), (162, n_X3_allOf (f_X3_allOf F)), (273, n_X3_heldOf (f_X3_heldOf F)), (286, n_X3_isLearnable (f_X3_isLearnable F)), (298, n_X6_sum (f_X6_sum F)), (319, n_X4_sum (f_X4_sum F)), (322, n_X4_setParted (f_X4_setParted F))]
theorem ca_X3_learnParted_ok {R' : Type} {q : cL} (hst : q.1.stackTraces = false) {D : Nat} (hD : 50 ≤ D) (F : Nat) : ∀ x ∈ (ca_X3_learnParted (R' := R') F), 1 ≤ D ∧ ceS q RX3 (D - 1) x.1 x.2 := List.forall_mem_cons.mpr ⟨⟨by omega, n_X4_setNothing_ok (k := 88) (lw_good_of (tb_ok 965 (by decide +kernel)) rfl) (fun a0 M r h => c_X4_setNothing hst (by omega) F a0 M r h)⟩, List.forall_mem_cons.mpr ⟨⟨by omega, n_X2_lookAt_ok (k := 50) (lw_good_of (tb_ok 770 (by decide +kernel)) rfl) (fun a0 a1 M r h => c_X2_lookAt hst (by omega) F a0 a1 M r h)⟩, List.forall_mem_cons.mpr ⟨⟨by omega, n_X3_allOf_ok (k := 54) (lw_good_of (tb_ok 796 (by decide +kernel)) rfl) (fun a0 M r h => c_X3_allOf hst (by omega) F a0 M r h)⟩, List.forall_mem_cons.mpr ⟨⟨by omega, n_X3_heldOf_ok (k := 91) (lw_good_of (tb_ok 969 (by decide +kernel)) rfl) (fun a0 a1 M r h => c_X3_heldOf hst (by omega) F a0 a1 M r h)⟩, List.forall_mem_cons.mpr ⟨⟨by omega, n_X3_isLearnable_ok (k := 95) (lw_good_of (tb_ok 973 (by decide +kernel)) rfl) (fun a0 a1 a2 M r h => c_X3_isLearnable hst (by omega) F a0 a1 a2 M r h)⟩, List.forall_mem_cons.mpr ⟨⟨by omega, n_X6_sum_ok (k := 99) (lw_good_of (tb_ok 977 (by decide +kernel)) rfl) (fun a0 M r h => c_X6_sum hst (by omega) F a0 M r h)⟩, List.forall_mem_cons.mpr ⟨⟨by omega, n_X4_sum_ok (k := 106) (lw_good_of (tb_ok 982 (by decide +kernel)) rfl) (fun a0 M r h => c_X4_sum hst (by omega) F a0 M r h)⟩, List.forall_mem_cons.mpr ⟨⟨by omega, n_X4_setParted_ok (k := 107) (lw_good_of (tb_ok 987 (by decide +kernel)) rfl) (fun a0 a1 a2 a3 M r h => c_X4_setParted hst (by omega) F a0 a1 a2 a3 M r h)⟩, fun _ h => absurd h List.not_mem_nil⟩⟩⟩⟩⟩⟩⟩⟩
def kd_X3_learnParted_17 (g : Nat → Nat → Int32 → cM → Option (cM)) : cKf (cM) := fun vs st M => (lR vs 0).bind fun x0 => (lR vs 1).bind fun x1 => (lI vs 2).bind fun x2 => match st with
  | [] => g x0 x1 x2 M
  | _ => none
theorem kf_X3_learnParted_17 {X : cCtx} {o : cO} {r : cM} {g : Nat → Nat → Int32 → cM → Option (cM)} (hg : ∀ x0 x1 x2 M, g x0 x1 x2 M = some r → WX X 7 o 17 [some (.ref x0), some (.ref x1), some (.int x2), none, none, none, none] [] M) : ∀ vs st M, kd_X3_learnParted_17 g vs st M = some r → WX X 7 o 17 vs st M := by
  intro vs st M h
  unfold kd_X3_learnParted_17 at h
  obtain ⟨x0, h0, h⟩ := Option.bind_eq_some_iff.mp h
  obtain ⟨x1, h1, h⟩ := Option.bind_eq_some_iff.mp h
  obtain ⟨x2, h2, h⟩ := Option.bind_eq_some_iff.mp h
  split at h
  · exact WX_weak (hg _ _ _ _ h) rfl ⟨lR_of h0, lR_of h1, lI_of h2, trivial⟩
  · cases h
def kd_X3_learnParted_43 (g : Nat → Nat → Int32 → Int32 → cM → Option (cM)) : cKf (cM) := fun vs st M => (lR vs 0).bind fun x0 => (lR vs 1).bind fun x1 => (lI vs 2).bind fun x2 => (lI vs 3).bind fun x3 => match st with
  | [] => g x0 x1 x2 x3 M
  | _ => none
theorem kf_X3_learnParted_43 {X : cCtx} {o : cO} {r : cM} {g : Nat → Nat → Int32 → Int32 → cM → Option (cM)} (hg : ∀ x0 x1 x2 x3 M, g x0 x1 x2 x3 M = some r → WX X 7 o 43 [some (.ref x0), some (.ref x1), some (.int x2), some (.int x3), none, none, none] [] M) : ∀ vs st M, kd_X3_learnParted_43 g vs st M = some r → WX X 7 o 43 vs st M := by
  intro vs st M h
  unfold kd_X3_learnParted_43 at h
  obtain ⟨x0, h0, h⟩ := Option.bind_eq_some_iff.mp h
  obtain ⟨x1, h1, h⟩ := Option.bind_eq_some_iff.mp h
  obtain ⟨x2, h2, h⟩ := Option.bind_eq_some_iff.mp h
  obtain ⟨x3, h3, h⟩ := Option.bind_eq_some_iff.mp h
  split at h
  · exact WX_weak (hg _ _ _ _ _ h) rfl ⟨lR_of h0, lR_of h1, lI_of h2, lI_of h3, trivial⟩
  · cases h
def kd_X3_learnParted_97 (g : Nat → Nat → Int32 → Int32 → Int32 → Int32 → cM → Option (cM)) : cKf (cM) := fun vs st M => (lR vs 0).bind fun x0 => (lR vs 1).bind fun x1 => (lI vs 2).bind fun x2 => (lI vs 3).bind fun x3 => (lI vs 4).bind fun x4 => (lI vs 5).bind fun x5 => match st with
  | [] => g x0 x1 x2 x3 x4 x5 M
  | _ => none
theorem kf_X3_learnParted_97 {X : cCtx} {o : cO} {r : cM} {g : Nat → Nat → Int32 → Int32 → Int32 → Int32 → cM → Option (cM)} (hg : ∀ x0 x1 x2 x3 x4 x5 M, g x0 x1 x2 x3 x4 x5 M = some r → WX X 7 o 97 [some (.ref x0), some (.ref x1), some (.int x2), some (.int x3), some (.int x4), some (.int x5), none] [] M) : ∀ vs st M, kd_X3_learnParted_97 g vs st M = some r → WX X 7 o 97 vs st M := by
  intro vs st M h
  unfold kd_X3_learnParted_97 at h
  obtain ⟨x0, h0, h⟩ := Option.bind_eq_some_iff.mp h
  obtain ⟨x1, h1, h⟩ := Option.bind_eq_some_iff.mp h
  obtain ⟨x2, h2, h⟩ := Option.bind_eq_some_iff.mp h
  obtain ⟨x3, h3, h⟩ := Option.bind_eq_some_iff.mp h
  obtain ⟨x4, h4, h⟩ := Option.bind_eq_some_iff.mp h
  obtain ⟨x5, h5, h⟩ := Option.bind_eq_some_iff.mp h
  split at h
  · exact WX_weak (hg _ _ _ _ _ _ _ h) rfl ⟨lR_of h0, lR_of h1, lI_of h2, lI_of h3, lI_of h4, lI_of h5, trivial⟩
  · cases h
def kd_X3_learnParted_142 (g : Nat → Nat → Int32 → Int32 → Int32 → Int32 → cM → Option (cM)) : cKf (cM) := fun vs st M => (lR vs 0).bind fun x0 => (lR vs 1).bind fun x1 => (lI vs 2).bind fun x2 => (lI vs 3).bind fun x3 => (lI vs 4).bind fun x4 => (lI vs 5).bind fun x5 => match st with
  | [] => g x0 x1 x2 x3 x4 x5 M
  | _ => none
theorem kf_X3_learnParted_142 {X : cCtx} {o : cO} {r : cM} {g : Nat → Nat → Int32 → Int32 → Int32 → Int32 → cM → Option (cM)} (hg : ∀ x0 x1 x2 x3 x4 x5 M, g x0 x1 x2 x3 x4 x5 M = some r → WX X 7 o 142 [some (.ref x0), some (.ref x1), some (.int x2), some (.int x3), some (.int x4), some (.int x5), none] [] M) : ∀ vs st M, kd_X3_learnParted_142 g vs st M = some r → WX X 7 o 142 vs st M := by
  intro vs st M h
  unfold kd_X3_learnParted_142 at h
  obtain ⟨x0, h0, h⟩ := Option.bind_eq_some_iff.mp h
  obtain ⟨x1, h1, h⟩ := Option.bind_eq_some_iff.mp h
  obtain ⟨x2, h2, h⟩ := Option.bind_eq_some_iff.mp h
  obtain ⟨x3, h3, h⟩ := Option.bind_eq_some_iff.mp h
  obtain ⟨x4, h4, h⟩ := Option.bind_eq_some_iff.mp h
  obtain ⟨x5, h5, h⟩ := Option.bind_eq_some_iff.mp h
  split at h
  · exact WX_weak (hg _ _ _ _ _ _ _ h) rfl ⟨lR_of h0, lR_of h1, lI_of h2, lI_of h3, lI_of h4, lI_of h5, trivial⟩
  · cases h
theorem e_X3_learnParted_142 (F : Nat) (t43 : Nat → Nat → Int32 → Int32 → cM → Option (cM)) (x0 : Nat) (x1 : Nat) (x2 : Int32) (x3 : Int32) (x4 : Int32) (x5 : Int32) (M : cM) : b_X3_learnParted_142 F t43 x0 x1 x2 x3 x4 x5 M = run T_X3_learnParted P_RX3 false 5 (naL na_X3_learnParted) (caL (ca_X3_learnParted F)) (lkN th_X3_learnParted) (lkN sw_X3_learnParted) krV kxN (spL [43]) (KL [(43, kd_X3_learnParted_43 t43)]) 91 142 [some (.ref x0), some (.ref x1), some (.int x2), some (.int x3), some (.int x4), some (.int x5), none] [] M := rfl
theorem ok_X3_learnParted_142 {X : cCtx} {D : Nat} {r : cM} (G : FX X 7 (eV r) cX3_learnParted RX3 5 D) {F : Nat} (hca : ∀ x ∈ (ca_X3_learnParted (R' := cM) F), 1 ≤ D ∧ ceS X.1 RX3 (D - 1) x.1 x.2) (k43 : Nat → Nat → Int32 → Int32 → cM → Option (cM)) (hk43 : ∀ x0 x1 x2 x3 M, k43 x0 x1 x2 x3 M = some r → WX X 7 (eV r) 43 [some (.ref x0), some (.ref x1), some (.int x2), some (.int x3), none, none, none] [] M) : ∀ x0 x1 x2 x3 x4 x5 M, f_X3_learnParted_142 F k43 x0 x1 x2 x3 x4 x5 M = some r → WX X 7 (eV r) 142 [some (.ref x0), some (.ref x1), some (.int x2), some (.int x3), some (.int x4), some (.int x5), none] [] M := by
  intro x0 x1 x2 x3 x4 x5 M h
  exact seg_ok G P_RX3_ok T_X3_learnParted_ok hca (fun _ h => absurd h List.not_mem_nil) sw_X3_learnParted_ok krV_ok (kxN_ok (f := eV)) (List.forall_mem_cons.mpr ⟨kf_X3_learnParted_43 (hk43), fun _ h => absurd h List.not_mem_nil⟩) ((e_X3_learnParted_142 F (k43) x0 x1 x2 x3 x4 x5 M).symm.trans h)
theorem e_X3_learnParted_97 (F : Nat) (t43 : Nat → Nat → Int32 → Int32 → cM → Option (cM)) (t142 : Nat → Nat → Int32 → Int32 → Int32 → Int32 → cM → Option (cM)) (x0 : Nat) (x1 : Nat) (x2 : Int32) (x3 : Int32) (x4 : Int32) (x5 : Int32) (M : cM) : b_X3_learnParted_97 F t43 t142 x0 x1 x2 x3 x4 x5 M = run T_X3_learnParted P_RX3 false 5 (naL na_X3_learnParted) (caL (ca_X3_learnParted F)) (lkN th_X3_learnParted) (lkN sw_X3_learnParted) krV kxN (spL [43, 142]) (KL [(43, kd_X3_learnParted_43 t43), (142, kd_X3_learnParted_142 t142)]) 91 97 [some (.ref x0), some (.ref x1), some (.int x2), some (.int x3), some (.int x4), some (.int x5), none] [] M := rfl
theorem ok_X3_learnParted_97 {X : cCtx} {D : Nat} {r : cM} (G : FX X 7 (eV r) cX3_learnParted RX3 5 D) {F : Nat} (hca : ∀ x ∈ (ca_X3_learnParted (R' := cM) F), 1 ≤ D ∧ ceS X.1 RX3 (D - 1) x.1 x.2) (k43 : Nat → Nat → Int32 → Int32 → cM → Option (cM)) (hk43 : ∀ x0 x1 x2 x3 M, k43 x0 x1 x2 x3 M = some r → WX X 7 (eV r) 43 [some (.ref x0), some (.ref x1), some (.int x2), some (.int x3), none, none, none] [] M) : ∀ x0 x1 x2 x3 x4 x5 M, f_X3_learnParted_97 F k43 x0 x1 x2 x3 x4 x5 M = some r → WX X 7 (eV r) 97 [some (.ref x0), some (.ref x1), some (.int x2), some (.int x3), some (.int x4), some (.int x5), none] [] M := by
  intro x0 x1 x2 x3 x4 x5 M h
  exact seg_ok G P_RX3_ok T_X3_learnParted_ok hca (fun _ h => absurd h List.not_mem_nil) sw_X3_learnParted_ok krV_ok (kxN_ok (f := eV)) (List.forall_mem_cons.mpr ⟨kf_X3_learnParted_43 (hk43), List.forall_mem_cons.mpr ⟨kf_X3_learnParted_142 (ok_X3_learnParted_142 G hca k43 hk43), fun _ h => absurd h List.not_mem_nil⟩⟩) ((e_X3_learnParted_97 F (k43) (f_X3_learnParted_142 F k43) x0 x1 x2 x3 x4 x5 M).symm.trans h)
theorem e_X3_learnParted_43 (F : Nat) (t43 : Nat → Nat → Int32 → Int32 → cM → Option (cM)) (t97 : Nat → Nat → Int32 → Int32 → Int32 → Int32 → cM → Option (cM)) (x0 : Nat) (x1 : Nat) (x2 : Int32) (x3 : Int32) (M : cM) : b_X3_learnParted_43 F t43 t97 x0 x1 x2 x3 M = run T_X3_learnParted P_RX3 false 5 (naL na_X3_learnParted) (caL (ca_X3_learnParted F)) (lkN th_X3_learnParted) (lkN sw_X3_learnParted) krV kxN (spL [43, 97]) (KL [(43, kd_X3_learnParted_43 t43), (97, kd_X3_learnParted_97 t97)]) 91 43 [some (.ref x0), some (.ref x1), some (.int x2), some (.int x3), none, none, none] [] M := rfl
theorem ok_X3_learnParted_43 {X : cCtx} {D : Nat} {r : cM} (G : FX X 7 (eV r) cX3_learnParted RX3 5 D) {F : Nat} (hca : ∀ x ∈ (ca_X3_learnParted (R' := cM) F), 1 ≤ D ∧ ceS X.1 RX3 (D - 1) x.1 x.2) (n : Nat) : ∀ x0 x1 x2 x3 M, f_X3_learnParted_43 F n x0 x1 x2 x3 M = some r → WX X 7 (eV r) 43 [some (.ref x0), some (.ref x1), some (.int x2), some (.int x3), none, none, none] [] M := by
  induction n with
  | zero => intro x0 x1 x2 x3 M h; cases h
  | succ n ih =>
    intro x0 x1 x2 x3 M h
    exact seg_ok G P_RX3_ok T_X3_learnParted_ok hca (fun _ h => absurd h List.not_mem_nil) sw_X3_learnParted_ok krV_ok (kxN_ok (f := eV)) (List.forall_mem_cons.mpr ⟨kf_X3_learnParted_43 (ih), List.forall_mem_cons.mpr ⟨kf_X3_learnParted_97 (ok_X3_learnParted_97 G hca (f_X3_learnParted_43 F n) ih), fun _ h => absurd h List.not_mem_nil⟩⟩) ((e_X3_learnParted_43 F (f_X3_learnParted_43 F n) (f_X3_learnParted_97 F (f_X3_learnParted_43 F n)) x0 x1 x2 x3 M).symm.trans h)
theorem e_X3_learnParted_17 (F : Nat) (t17 : Nat → Nat → Int32 → cM → Option (cM)) (t43 : Nat → Nat → Int32 → Int32 → cM → Option (cM)) (x0 : Nat) (x1 : Nat) (x2 : Int32) (M : cM) : b_X3_learnParted_17 F t17 t43 x0 x1 x2 M = run T_X3_learnParted P_RX3 false 5 (naL na_X3_learnParted) (caL (ca_X3_learnParted F)) (lkN th_X3_learnParted) (lkN sw_X3_learnParted) krV kxN (spL [17, 43]) (KL [(17, kd_X3_learnParted_17 t17), (43, kd_X3_learnParted_43 t43)]) 91 17 [some (.ref x0), some (.ref x1), some (.int x2), none, none, none, none] [] M := rfl
theorem ok_X3_learnParted_17 {X : cCtx} {D : Nat} {r : cM} (G : FX X 7 (eV r) cX3_learnParted RX3 5 D) {F : Nat} (hca : ∀ x ∈ (ca_X3_learnParted (R' := cM) F), 1 ≤ D ∧ ceS X.1 RX3 (D - 1) x.1 x.2) (n : Nat) : ∀ x0 x1 x2 M, f_X3_learnParted_17 F n x0 x1 x2 M = some r → WX X 7 (eV r) 17 [some (.ref x0), some (.ref x1), some (.int x2), none, none, none, none] [] M := by
  induction n with
  | zero => intro x0 x1 x2 M h; cases h
  | succ n ih =>
    intro x0 x1 x2 M h
    exact seg_ok G P_RX3_ok T_X3_learnParted_ok hca (fun _ h => absurd h List.not_mem_nil) sw_X3_learnParted_ok krV_ok (kxN_ok (f := eV)) (List.forall_mem_cons.mpr ⟨kf_X3_learnParted_17 (ih), List.forall_mem_cons.mpr ⟨kf_X3_learnParted_43 (ok_X3_learnParted_43 G hca F), fun _ h => absurd h List.not_mem_nil⟩⟩) ((e_X3_learnParted_17 F (f_X3_learnParted_17 F n) (f_X3_learnParted_43 F F) x0 x1 x2 M).symm.trans h)
theorem e_X3_learnParted_0 (F : Nat) (t17 : Nat → Nat → Int32 → cM → Option (cM)) (x0 : Nat) (x1 : Nat) (M : cM) : b_X3_learnParted_0 F t17 x0 x1 M = run T_X3_learnParted P_RX3 false 5 (naL na_X3_learnParted) (caL (ca_X3_learnParted F)) (lkN th_X3_learnParted) (lkN sw_X3_learnParted) krV kxN (spL [17]) (KL [(17, kd_X3_learnParted_17 t17)]) 91 0 [some (.ref x0), some (.ref x1), none, none, none, none, none] [] M := rfl
theorem ok_X3_learnParted_0 {X : cCtx} {D : Nat} {r : cM} (G : FX X 7 (eV r) cX3_learnParted RX3 5 D) {F : Nat} (hca : ∀ x ∈ (ca_X3_learnParted (R' := cM) F), 1 ≤ D ∧ ceS X.1 RX3 (D - 1) x.1 x.2) : ∀ x0 x1 M, f_X3_learnParted_0 F x0 x1 M = some r → WX X 7 (eV r) 0 [some (.ref x0), some (.ref x1), none, none, none, none, none] [] M := by
  intro x0 x1 M h
  exact seg_ok G P_RX3_ok T_X3_learnParted_ok hca (fun _ h => absurd h List.not_mem_nil) sw_X3_learnParted_ok krV_ok (kxN_ok (f := eV)) (List.forall_mem_cons.mpr ⟨kf_X3_learnParted_17 (ok_X3_learnParted_17 G hca F), fun _ h => absurd h List.not_mem_nil⟩) ((e_X3_learnParted_0 F (f_X3_learnParted_17 F F) x0 x1 M).symm.trans h)
theorem c_X3_learnParted {q : cL} (hst : q.1.stackTraces = false) {D : Nat} (hD : 50 ≤ D) (F : Nat) (a0 : Nat) (a1 : Nat) (M : cM) (r : cM) (h : f_X3_learnParted F a0 a1 M = some r) : CTx q yX3_learnParted (.code yX3_learnParted cX3_learnParted 7 none) D [.ref a0, .ref a1] M (eV r) ∧ ∃ fs, M[a0]? = some (.inr (2, fs)) := by
  unfold f_X3_learnParted at h
  split at h
  · next hi => exact ⟨CTx_of (own := RX3) (rk := 5) hst (by decide +kernel) rfl (rfl) (Nat.le_of_ble_eq_true rfl) (fun X hX G => by subst hX; exact ok_X3_learnParted_0 G (ca_X3_learnParted_ok hst hD F) a0 a1 M h), isC_of hi⟩
  · cases h
def n_X3_learnParted {R' : Type} (f : Nat → Nat → cM → Option (cM)) : cFn R' := fun as M κ κx => match as with
  | [.ref a0, .ref a1] => (f a0 a1 M).bind fun p => κ none p
  | _ => none
theorem w_X3_learnParted : ∀ w ∈ [Cond.instanceMethod yX3_learnParted, .selects yX3_learnParted.cls yX3_learnParted yX3_learnParted, .initialized yX3_learnParted.cls, .code yX3_learnParted cX3_learnParted 7 none], w ∈ lw_good := List.forall_mem_cons.mpr ⟨lw_good_of (tb_ok 962 (by decide +kernel)) rfl, List.forall_mem_cons.mpr ⟨lw_good_of (tb_ok 963 (by decide +kernel)) rfl, List.forall_mem_cons.mpr ⟨lw_good_of (tb_ok 7 (by decide +kernel)) rfl, List.forall_mem_cons.mpr ⟨lw_good_of (tb_ok 964 (by decide +kernel)) rfl, fun _ h => absurd h List.not_mem_nil⟩⟩⟩⟩
theorem n_X3_learnParted_ok {R' : Type} {q : cL} {own : String} {d k : Nat} {f : Nat → Nat → cM → Option (cM)} (hl : Cond.methodLink own k yX3_learnParted ∈ lw_good) (hf : ∀ a0 a1 M r, f a0 a1 M = some r → CTx q yX3_learnParted (.code yX3_learnParted cX3_learnParted 7 none) d [.ref a0, .ref a1] M (eV r) ∧ ∃ fs, M[a0]? = some (.inr (2, fs))) : ceS q own d (3 * k + 1) (n_X3_learnParted (R' := R') f) := by
  intro as M κ κx r h
  unfold n_X3_learnParted at h
  split at h
  · obtain ⟨p, h1, h2⟩ := Option.bind_eq_some_iff.mp h
    obtain ⟨hc, fs, ha⟩ := hf _ _ _ _ h1
    exact ⟨eV p, fun _ => h2, fun hne => absurd rfl hne, Or.inr (Or.inl ⟨yX3_learnParted, cX3_learnParted, 7, none, k, 1, _, _, 2, TX3, 5, fs, rfl, rfl, hc, ha, rfl, List.forall_mem_cons.mpr ⟨hl, w_X3_learnParted⟩, ⟨rfl, by decide +kernel, by decide +kernel, by decide +kernel⟩, rfl, by decide⟩)⟩
  · cases h
-- PatchbayScript$Learner.bestDiffer(LPatchbayScript$Task;LPatchbayScript$Text;)Z
def T_X3_bestDiffer : List cRow := [(0, .iconst 0, 1, 0), (1, .istore_n 3, 2, 0), (2, .iconst 0, 3, 0), (3, .istore 4, 5, 0), (5, .iconst 0, 6, 0), (6, .istore 5, 8, 0), (8, .iload 5, 10, 0), (10, .aload_n 1, 11, 0), (11, .getfield 43, 14, 0), (14, .if_icmp .ge 103, 17, 117), (17, .iload 5, 19, 0), (19, .iconst 5, 20, 0), (20, .if_icmp .ge 97, 23, 117), (23, .aload_n 1, 24, 0), (24, .aload_n 1, 25, 0), (25, .getfield 65, 28, 0), (28, .iload 5, 30, 0), (30, .aaload, 31, 0), (31, .aload_n 0, 32, 0), (32, .getfield 31, 35, 0), (35, .invokevirtual 75, 38, 0), (38, .ifCond .ne 6, 41, 44), (41, .goto 70, 44, 111), (44, .iload_n 3, 45, 0), (45, .ifCond .ne 25, 48, 70), (48, .iconst 1, 49, 0), (49, .istore_n 3, 50, 0), (50, .aload_n 1, 51, 0), (51, .getfield 65, 54, 0), (54, .iload 5, 56, 0), (56, .aaload, 57, 0), (57, .aload_n 2, 58, 0), (58, .aload_n 0, 59, 0), (59, .getfield 35, 62, 0), (62, .invokevirtual 125, 65, 0), (65, .istore 4, 67, 0), (67, .goto 44, 70, 111), (70, .aload_n 1, 71, 0), (71, .getfield 65, 74, 0), (74, .iload 5, 76, 0), (76, .aaload, 77, 0), (77, .aload_n 2, 78, 0), (78, .aload_n 0, 79, 0), (79, .getfield 31, 82, 0), (82, .invokevirtual 125, 85, 0), (85, .iload 4, 87, 0), (87, .if_icmp .ne 22, 90, 109), (90, .iload 4, 92, 0), (92, .ifCond .eq 19, 95, 111), (95, .aload_n 0, 96, 0), (96, .getfield 31, 99, 0), (99, .aload_n 0, 100, 0), (100, .getfield 35, 103, 0), (103, .invokevirtual 129, 106, 0), (106, .ifCond .ne 5, 109, 111), (109, .iconst 1, 110, 0), (110, .ireturn, 111, 0), (111, .iinc 5 1, 114, 0), (114, .goto (-106), 117, 8), (117, .iconst 0, 118, 0), (118, .ireturn, 119, 0)]
theorem T_X3_bestDiffer_ok : T_X3_bestDiffer.all (rowB cX3_bestDiffer) = true := by decide +kernel
def th_X3_bestDiffer : List (Nat × Nat) := []
def sw_X3_bestDiffer : List (Nat × (List (Int32 × Nat) × Nat)) := []
theorem sw_X3_bestDiffer_ok : ∀ q ∈ sw_X3_bestDiffer, swS cX3_bestDiffer q := fun _ h => absurd h List.not_mem_nil
def na_X3_bestDiffer : List (Nat × Nat) := [(226, 3), (376, 3), (388, 2)]
def ca_X3_bestDiffer {R' : Type} (F : Nat) : List (Nat × cFn R') := [(226, n_X9_bears (f_X9_bears F)), (376, n_X6_makes (f_X6_makes F)), (388, n_X10_isLike (f_X10_isLike F))]
theorem ca_X3_bestDiffer_ok {R' : Type} {q : cL} (hst : q.1.stackTraces = false) {D : Nat} (hD : 5 ≤ D) (F : Nat) : ∀ x ∈ (ca_X3_bestDiffer (R' := R') F), 1 ≤ D ∧ ceS q RX3 (D - 1) x.1 x.2 := List.forall_mem_cons.mpr ⟨⟨by omega, n_X9_bears_ok (k := 75) (lw_good_of (tb_ok 948 (by decide +kernel)) rfl) (fun a0 a1 a2 M r h => c_X9_bears hst (by omega) F a0 a1 a2 M r h)⟩, List.forall_mem_cons.mpr ⟨⟨by omega, n_X6_makes_ok (k := 125) (lw_good_of (tb_ok 1019 (by decide +kernel)) rfl) (fun a0 a1 a2 M r h => c_X6_makes hst (by omega) F a0 a1 a2 M r h)⟩, List.forall_mem_cons.mpr ⟨⟨by omega, n_X10_isLike_ok (k := 129) (lw_good_of (tb_ok 1020 (by decide +kernel)) rfl) (fun a0 a1 M r h => c_X10_isLike hst (by omega) F a0 a1 M r h)⟩, fun _ h => absurd h List.not_mem_nil⟩⟩⟩
def kd_X3_bestDiffer_8 (g : Nat → Nat → Nat → Int32 → Int32 → Int32 → cM → Option (Int32 × cM)) : cKf (Int32 × cM) := fun vs st M => (lR vs 0).bind fun x0 => (lR vs 1).bind fun x1 => (lR vs 2).bind fun x2 => (lI vs 3).bind fun x3 => (lI vs 4).bind fun x4 => (lI vs 5).bind fun x5 => match st with
  | [] => g x0 x1 x2 x3 x4 x5 M
  | _ => none
theorem kf_X3_bestDiffer_8 {X : cCtx} {o : cO} {r : Int32 × cM} {g : Nat → Nat → Nat → Int32 → Int32 → Int32 → cM → Option (Int32 × cM)} (hg : ∀ x0 x1 x2 x3 x4 x5 M, g x0 x1 x2 x3 x4 x5 M = some r → WX X 6 o 8 [some (.ref x0), some (.ref x1), some (.ref x2), some (.int x3), some (.int x4), some (.int x5)] [] M) : ∀ vs st M, kd_X3_bestDiffer_8 g vs st M = some r → WX X 6 o 8 vs st M := by
  intro vs st M h
  unfold kd_X3_bestDiffer_8 at h
  obtain ⟨x0, h0, h⟩ := Option.bind_eq_some_iff.mp h
  obtain ⟨x1, h1, h⟩ := Option.bind_eq_some_iff.mp h
  obtain ⟨x2, h2, h⟩ := Option.bind_eq_some_iff.mp h
  obtain ⟨x3, h3, h⟩ := Option.bind_eq_some_iff.mp h
  obtain ⟨x4, h4, h⟩ := Option.bind_eq_some_iff.mp h
  obtain ⟨x5, h5, h⟩ := Option.bind_eq_some_iff.mp h
  split at h
  · exact WX_weak (hg _ _ _ _ _ _ _ h) rfl ⟨lR_of h0, lR_of h1, lR_of h2, lI_of h3, lI_of h4, lI_of h5, trivial⟩
  · cases h
theorem e_X3_bestDiffer_8 (F : Nat) (t8 : Nat → Nat → Nat → Int32 → Int32 → Int32 → cM → Option (Int32 × cM)) (x0 : Nat) (x1 : Nat) (x2 : Nat) (x3 : Int32) (x4 : Int32) (x5 : Int32) (M : cM) : b_X3_bestDiffer_8 F t8 x0 x1 x2 x3 x4 x5 M = run T_X3_bestDiffer P_RX3 false 1 (naL na_X3_bestDiffer) (caL (ca_X3_bestDiffer F)) (lkN th_X3_bestDiffer) (lkN sw_X3_bestDiffer) krI kxN (spL [8]) (KL [(8, kd_X3_bestDiffer_8 t8)]) 64 8 [some (.ref x0), some (.ref x1), some (.ref x2), some (.int x3), some (.int x4), some (.int x5)] [] M := rfl
theorem ok_X3_bestDiffer_8 {X : cCtx} {D : Nat} {r : Int32 × cM} (G : FX X 6 (eI r) cX3_bestDiffer RX3 1 D) {F : Nat} (hca : ∀ x ∈ (ca_X3_bestDiffer (R' := Int32 × cM) F), 1 ≤ D ∧ ceS X.1 RX3 (D - 1) x.1 x.2) (n : Nat) : ∀ x0 x1 x2 x3 x4 x5 M, f_X3_bestDiffer_8 F n x0 x1 x2 x3 x4 x5 M = some r → WX X 6 (eI r) 8 [some (.ref x0), some (.ref x1), some (.ref x2), some (.int x3), some (.int x4), some (.int x5)] [] M := by
  induction n with
  | zero => intro x0 x1 x2 x3 x4 x5 M h; cases h
  | succ n ih =>
    intro x0 x1 x2 x3 x4 x5 M h
    exact seg_ok G P_RX3_ok T_X3_bestDiffer_ok hca (fun _ h => absurd h List.not_mem_nil) sw_X3_bestDiffer_ok krI_ok (kxN_ok (f := eI)) (List.forall_mem_cons.mpr ⟨kf_X3_bestDiffer_8 (ih), fun _ h => absurd h List.not_mem_nil⟩) ((e_X3_bestDiffer_8 F (f_X3_bestDiffer_8 F n) x0 x1 x2 x3 x4 x5 M).symm.trans h)
theorem e_X3_bestDiffer_0 (F : Nat) (t8 : Nat → Nat → Nat → Int32 → Int32 → Int32 → cM → Option (Int32 × cM)) (x0 : Nat) (x1 : Nat) (x2 : Nat) (M : cM) : b_X3_bestDiffer_0 F t8 x0 x1 x2 M = run T_X3_bestDiffer P_RX3 false 1 (naL na_X3_bestDiffer) (caL (ca_X3_bestDiffer F)) (lkN th_X3_bestDiffer) (lkN sw_X3_bestDiffer) krI kxN (spL [8]) (KL [(8, kd_X3_bestDiffer_8 t8)]) 64 0 [some (.ref x0), some (.ref x1), some (.ref x2), none, none, none] [] M := rfl
theorem ok_X3_bestDiffer_0 {X : cCtx} {D : Nat} {r : Int32 × cM} (G : FX X 6 (eI r) cX3_bestDiffer RX3 1 D) {F : Nat} (hca : ∀ x ∈ (ca_X3_bestDiffer (R' := Int32 × cM) F), 1 ≤ D ∧ ceS X.1 RX3 (D - 1) x.1 x.2) : ∀ x0 x1 x2 M, f_X3_bestDiffer_0 F x0 x1 x2 M = some r → WX X 6 (eI r) 0 [some (.ref x0), some (.ref x1), some (.ref x2), none, none, none] [] M := by
  intro x0 x1 x2 M h
  exact seg_ok G P_RX3_ok T_X3_bestDiffer_ok hca (fun _ h => absurd h List.not_mem_nil) sw_X3_bestDiffer_ok krI_ok (kxN_ok (f := eI)) (List.forall_mem_cons.mpr ⟨kf_X3_bestDiffer_8 (ok_X3_bestDiffer_8 G hca F), fun _ h => absurd h List.not_mem_nil⟩) ((e_X3_bestDiffer_0 F (f_X3_bestDiffer_8 F F) x0 x1 x2 M).symm.trans h)
theorem c_X3_bestDiffer {q : cL} (hst : q.1.stackTraces = false) {D : Nat} (hD : 5 ≤ D) (F : Nat) (a0 : Nat) (a1 : Nat) (a2 : Nat) (M : cM) (r : Int32 × cM) (h : f_X3_bestDiffer F a0 a1 a2 M = some r) : CTx q yX3_bestDiffer (.code yX3_bestDiffer cX3_bestDiffer 6 (some .boolean)) D [.ref a0, .ref a1, .ref a2] M (eI r) ∧ ∃ fs, M[a0]? = some (.inr (2, fs)) := by
  unfold f_X3_bestDiffer at h
  split at h
  · next hi => exact ⟨CTx_of (own := RX3) (rk := 1) hst (by decide +kernel) rfl (rfl) (Nat.le_of_ble_eq_true rfl) (fun X hX G => by subst hX; exact ok_X3_bestDiffer_0 G (ca_X3_bestDiffer_ok hst hD F) a0 a1 a2 M h), isC_of hi⟩
  · cases h
def n_X3_bestDiffer {R' : Type} (f : Nat → Nat → Nat → cM → Option (Int32 × cM)) : cFn R' := fun as M κ κx => match as with
  | [.ref a0, .ref a1, .ref a2] => (f a0 a1 a2 M).bind fun p => κ (some (.int p.1)) p.2
  | _ => none
theorem w_X3_bestDiffer : ∀ w ∈ [Cond.instanceMethod yX3_bestDiffer, .selects yX3_bestDiffer.cls yX3_bestDiffer yX3_bestDiffer, .initialized yX3_bestDiffer.cls, .code yX3_bestDiffer cX3_bestDiffer 6 (some .boolean)], w ∈ lw_good := List.forall_mem_cons.mpr ⟨lw_good_of (tb_ok 1016 (by decide +kernel)) rfl, List.forall_mem_cons.mpr ⟨lw_good_of (tb_ok 1017 (by decide +kernel)) rfl, List.forall_mem_cons.mpr ⟨lw_good_of (tb_ok 7 (by decide +kernel)) rfl, List.forall_mem_cons.mpr ⟨lw_good_of (tb_ok 1018 (by decide +kernel)) rfl, fun _ h => absurd h List.not_mem_nil⟩⟩⟩⟩
theorem n_X3_bestDiffer_ok {R' : Type} {q : cL} {own : String} {d k : Nat} {f : Nat → Nat → Nat → cM → Option (Int32 × cM)} (hl : Cond.methodLink own k yX3_bestDiffer ∈ lw_good) (hf : ∀ a0 a1 a2 M r, f a0 a1 a2 M = some r → CTx q yX3_bestDiffer (.code yX3_bestDiffer cX3_bestDiffer 6 (some .boolean)) d [.ref a0, .ref a1, .ref a2] M (eI r) ∧ ∃ fs, M[a0]? = some (.inr (2, fs))) : ceS q own d (3 * k + 1) (n_X3_bestDiffer (R' := R') f) := by
  intro as M κ κx r h
  unfold n_X3_bestDiffer at h
  split at h
  · obtain ⟨p, h1, h2⟩ := Option.bind_eq_some_iff.mp h
    obtain ⟨hc, fs, ha⟩ := hf _ _ _ _ _ h1
    exact ⟨eI p, fun _ => h2, fun hne => absurd rfl hne, Or.inr (Or.inl ⟨yX3_bestDiffer, cX3_bestDiffer, 6, (some .boolean), k, 2, _, _, 2, TX3, 5, fs, rfl, rfl, hc, ha, rfl, List.forall_mem_cons.mpr ⟨hl, w_X3_bestDiffer⟩, ⟨rfl, by decide +kernel, by decide +kernel, by decide +kernel⟩, rfl, by decide⟩)⟩
  · cases h
-- PatchbayScript$Learnt.set(LPatchbayScript$Learnt;)V
def T_X4_set : List cRow := [(0, .aload_n 0, 1, 0), (1, .aload_n 1, 2, 0), (2, .getfield 47, 5, 0), (5, .putfield 47, 8, 0), (8, .aload_n 0, 9, 0), (9, .aload_n 1, 10, 0), (10, .getfield 21, 13, 0), (13, .putfield 21, 16, 0), (16, .aload_n 0, 17, 0), (17, .getfield 12, 20, 0), (20, .aload_n 1, 21, 0), (21, .getfield 12, 24, 0), (24, .invokevirtual 51, 27, 0), (27, .aload_n 0, 28, 0), (28, .getfield 18, 31, 0), (31, .aload_n 1, 32, 0), (32, .getfield 18, 35, 0), (35, .invokevirtual 51, 38, 0), (38, .return_, 39, 0)]
theorem T_X4_set_ok : T_X4_set.all (rowB cX4_set) = true := by decide +kernel
def th_X4_set : List (Nat × Nat) := []
def sw_X4_set : List (Nat × (List (Int32 × Nat) × Nat)) := []
theorem sw_X4_set_ok : ∀ q ∈ sw_X4_set, swS cX4_set q := fun _ h => absurd h List.not_mem_nil
def na_X4_set : List (Nat × Nat) := [(154, 2)]
def ca_X4_set {R' : Type} (F : Nat) : List (Nat × cFn R') := [(154, n_X6_set (f_X6_set F))]
theorem ca_X4_set_ok {R' : Type} {q : cL} (hst : q.1.stackTraces = false) {D : Nat} (hD : 1 ≤ D) (F : Nat) : ∀ x ∈ (ca_X4_set (R' := R') F), 1 ≤ D ∧ ceS q RX4 (D - 1) x.1 x.2 := List.forall_mem_cons.mpr ⟨⟨by omega, n_X6_set_ok (k := 51) (lw_good_of (tb_ok 546 (by decide +kernel)) rfl) (fun a0 a1 M r h => c_X6_set hst (by omega) F a0 a1 M r h)⟩, fun _ h => absurd h List.not_mem_nil⟩
theorem e_X4_set_0 (F : Nat) (x0 : Nat) (x1 : Nat) (M : cM) : b_X4_set_0 F x0 x1 M = run T_X4_set P_RX4 false 5 (naL na_X4_set) (caL (ca_X4_set F)) (lkN th_X4_set) (lkN sw_X4_set) krV kxN (spL []) (KL []) 22 0 [some (.ref x0), some (.ref x1)] [] M := rfl
theorem ok_X4_set_0 {X : cCtx} {D : Nat} {r : cM} (G : FX X 2 (eV r) cX4_set RX4 5 D) {F : Nat} (hca : ∀ x ∈ (ca_X4_set (R' := cM) F), 1 ≤ D ∧ ceS X.1 RX4 (D - 1) x.1 x.2) : ∀ x0 x1 M, f_X4_set_0 F x0 x1 M = some r → WX X 2 (eV r) 0 [some (.ref x0), some (.ref x1)] [] M := by
  intro x0 x1 M h
  exact seg_ok G P_RX4_ok T_X4_set_ok hca (fun _ h => absurd h List.not_mem_nil) sw_X4_set_ok krV_ok (kxN_ok (f := eV)) (fun _ h => absurd h List.not_mem_nil) ((e_X4_set_0 F x0 x1 M).symm.trans h)
theorem c_X4_set {q : cL} (hst : q.1.stackTraces = false) {D : Nat} (hD : 1 ≤ D) (F : Nat) (a0 : Nat) (a1 : Nat) (M : cM) (r : cM) (h : f_X4_set F a0 a1 M = some r) : CTx q yX4_set (.code yX4_set cX4_set 2 none) D [.ref a0, .ref a1] M (eV r) ∧ ∃ fs, M[a0]? = some (.inr (3, fs)) := by
  unfold f_X4_set at h
  split at h
  · next hi => exact ⟨CTx_of (own := RX4) (rk := 5) hst (by decide +kernel) rfl (rfl) (Nat.le_of_ble_eq_true rfl) (fun X hX G => by subst hX; exact ok_X4_set_0 G (ca_X4_set_ok hst hD F) a0 a1 M h), isC_of hi⟩
  · cases h
def n_X4_set {R' : Type} (f : Nat → Nat → cM → Option (cM)) : cFn R' := fun as M κ κx => match as with
  | [.ref a0, .ref a1] => (f a0 a1 M).bind fun p => κ none p
  | _ => none
theorem w_X4_set : ∀ w ∈ [Cond.instanceMethod yX4_set, .selects yX4_set.cls yX4_set yX4_set, .initialized yX4_set.cls, .code yX4_set cX4_set 2 none], w ∈ lw_good := List.forall_mem_cons.mpr ⟨lw_good_of (tb_ok 543 (by decide +kernel)) rfl, List.forall_mem_cons.mpr ⟨lw_good_of (tb_ok 544 (by decide +kernel)) rfl, List.forall_mem_cons.mpr ⟨lw_good_of (tb_ok 4 (by decide +kernel)) rfl, List.forall_mem_cons.mpr ⟨lw_good_of (tb_ok 545 (by decide +kernel)) rfl, fun _ h => absurd h List.not_mem_nil⟩⟩⟩⟩
theorem n_X4_set_ok {R' : Type} {q : cL} {own : String} {d k : Nat} {f : Nat → Nat → cM → Option (cM)} (hl : Cond.methodLink own k yX4_set ∈ lw_good) (hf : ∀ a0 a1 M r, f a0 a1 M = some r → CTx q yX4_set (.code yX4_set cX4_set 2 none) d [.ref a0, .ref a1] M (eV r) ∧ ∃ fs, M[a0]? = some (.inr (3, fs))) : ceS q own d (3 * k + 1) (n_X4_set (R' := R') f) := by
  intro as M κ κx r h
  unfold n_X4_set at h
  split at h
  · obtain ⟨p, h1, h2⟩ := Option.bind_eq_some_iff.mp h
    obtain ⟨hc, fs, ha⟩ := hf _ _ _ _ h1
    exact ⟨eV p, fun _ => h2, fun hne => absurd rfl hne, Or.inr (Or.inl ⟨yX4_set, cX4_set, 2, none, k, 1, _, _, 3, TX4, 4, fs, rfl, rfl, hc, ha, rfl, List.forall_mem_cons.mpr ⟨hl, w_X4_set⟩, ⟨rfl, by decide +kernel, by decide +kernel, by decide +kernel⟩, rfl, by decide⟩)⟩
  · cases h
-- PatchbayScript$Learnt.makes(LPatchbayScript$Text;LPatchbayScript$Text;)Z
def T_X4_makes : List cRow := [(0, .aload_n 0, 1, 0), (1, .getfield 47, 4, 0), (4, .ifCond .ne 5, 7, 9), (7, .iconst 0, 8, 0), (8, .ireturn, 9, 0), (9, .aload_n 0, 10, 0), (10, .getfield 21, 13, 0), (13, .iconst (-1), 14, 0), (14, .if_icmp .eq 14, 17, 28), (17, .aload_n 0, 18, 0), (18, .getfield 21, 21, 0), (21, .aload_n 1, 22, 0), (22, .invokestatic 59, 25, 0), (25, .ifCond .eq 7, 28, 32), (28, .iconst 1, 29, 0), (29, .goto 4, 32, 33), (32, .iconst 0, 33, 0), (33, .istore_n 3, 34, 0), (34, .iload_n 3, 35, 0), (35, .ifCond .eq 15, 38, 50), (38, .aload_n 0, 39, 0), (39, .getfield 12, 42, 0), (42, .aload_n 1, 43, 0), (43, .aload_n 2, 44, 0), (44, .invokevirtual 63, 47, 0), (47, .goto 12, 50, 59), (50, .aload_n 0, 51, 0), (51, .getfield 18, 54, 0), (54, .aload_n 1, 55, 0), (55, .aload_n 2, 56, 0), (56, .invokevirtual 63, 59, 0), (59, .ireturn, 60, 0)]
theorem T_X4_makes_ok : T_X4_makes.all (rowB cX4_makes) = true := by decide +kernel
def th_X4_makes : List (Nat × Nat) := []
def sw_X4_makes : List (Nat × (List (Int32 × Nat) × Nat)) := []
theorem sw_X4_makes_ok : ∀ q ∈ sw_X4_makes, swS cX4_makes q := fun _ h => absurd h List.not_mem_nil
def na_X4_makes : List (Nat × Nat) := [(177, 2), (190, 3)]
def ca_X4_makes {R' : Type} (F : Nat) : List (Nat × cFn R') := [(177, n_X4_holds (f_X4_holds F)), (190, n_X6_makes (f_X6_makes F))]
theorem ca_X4_makes_ok {R' : Type} {q : cL} (hst : q.1.stackTraces = false) {D : Nat} (hD : 4 ≤ D) (F : Nat) : ∀ x ∈ (ca_X4_makes (R' := R') F), 1 ≤ D ∧ ceS q RX4 (D - 1) x.1 x.2 := List.forall_mem_cons.mpr ⟨⟨by omega, n_X4_holds_ok (k := 59) (lw_good_of (tb_ok 558 (by decide +kernel)) rfl) (fun a0 a1 M r h => c_X4_holds hst (by omega) F a0 a1 M r h)⟩, List.forall_mem_cons.mpr ⟨⟨by omega, n_X6_makes_ok (k := 63) (lw_good_of (tb_ok 576 (by decide +kernel)) rfl) (fun a0 a1 a2 M r h => c_X6_makes hst (by omega) F a0 a1 a2 M r h)⟩, fun _ h => absurd h List.not_mem_nil⟩⟩
def kd_X4_makes_33 (g : Nat → Nat → Nat → Int32 → cM → Option (Int32 × cM)) : cKf (Int32 × cM) := fun vs st M => (lR vs 0).bind fun x0 => (lR vs 1).bind fun x1 => (lR vs 2).bind fun x2 => match st with
  | [.int s0] => g x0 x1 x2 s0 M
  | _ => none
theorem kf_X4_makes_33 {X : cCtx} {o : cO} {r : Int32 × cM} {g : Nat → Nat → Nat → Int32 → cM → Option (Int32 × cM)} (hg : ∀ x0 x1 x2 s0 M, g x0 x1 x2 s0 M = some r → WX X 4 o 33 [some (.ref x0), some (.ref x1), some (.ref x2), none] [.int s0] M) : ∀ vs st M, kd_X4_makes_33 g vs st M = some r → WX X 4 o 33 vs st M := by
  intro vs st M h
  unfold kd_X4_makes_33 at h
  obtain ⟨x0, h0, h⟩ := Option.bind_eq_some_iff.mp h
  obtain ⟨x1, h1, h⟩ := Option.bind_eq_some_iff.mp h
  obtain ⟨x2, h2, h⟩ := Option.bind_eq_some_iff.mp h
  split at h
  · exact WX_weak (hg _ _ _ _ _ h) rfl ⟨lR_of h0, lR_of h1, lR_of h2, trivial⟩
  · cases h
theorem e_X4_makes_33 (F : Nat) (x0 : Nat) (x1 : Nat) (x2 : Nat) (s0 : Int32) (M : cM) : b_X4_makes_33 F x0 x1 x2 s0 M = run T_X4_makes P_RX4 false 1 (naL na_X4_makes) (caL (ca_X4_makes F)) (lkN th_X4_makes) (lkN sw_X4_makes) krI kxN (spL []) (KL []) 35 33 [some (.ref x0), some (.ref x1), some (.ref x2), none] [.int s0] M := rfl
theorem ok_X4_makes_33 {X : cCtx} {D : Nat} {r : Int32 × cM} (G : FX X 4 (eI r) cX4_makes RX4 1 D) {F : Nat} (hca : ∀ x ∈ (ca_X4_makes (R' := Int32 × cM) F), 1 ≤ D ∧ ceS X.1 RX4 (D - 1) x.1 x.2) : ∀ x0 x1 x2 s0 M, f_X4_makes_33 F x0 x1 x2 s0 M = some r → WX X 4 (eI r) 33 [some (.ref x0), some (.ref x1), some (.ref x2), none] [.int s0] M := by
  intro x0 x1 x2 s0 M h
  exact seg_ok G P_RX4_ok T_X4_makes_ok hca (fun _ h => absurd h List.not_mem_nil) sw_X4_makes_ok krI_ok (kxN_ok (f := eI)) (fun _ h => absurd h List.not_mem_nil) ((e_X4_makes_33 F x0 x1 x2 s0 M).symm.trans h)
theorem e_X4_makes_0 (F : Nat) (t33 : Nat → Nat → Nat → Int32 → cM → Option (Int32 × cM)) (x0 : Nat) (x1 : Nat) (x2 : Nat) (M : cM) : b_X4_makes_0 F t33 x0 x1 x2 M = run T_X4_makes P_RX4 false 1 (naL na_X4_makes) (caL (ca_X4_makes F)) (lkN th_X4_makes) (lkN sw_X4_makes) krI kxN (spL [33]) (KL [(33, kd_X4_makes_33 t33)]) 35 0 [some (.ref x0), some (.ref x1), some (.ref x2), none] [] M := rfl
theorem ok_X4_makes_0 {X : cCtx} {D : Nat} {r : Int32 × cM} (G : FX X 4 (eI r) cX4_makes RX4 1 D) {F : Nat} (hca : ∀ x ∈ (ca_X4_makes (R' := Int32 × cM) F), 1 ≤ D ∧ ceS X.1 RX4 (D - 1) x.1 x.2) : ∀ x0 x1 x2 M, f_X4_makes_0 F x0 x1 x2 M = some r → WX X 4 (eI r) 0 [some (.ref x0), some (.ref x1), some (.ref x2), none] [] M := by
  intro x0 x1 x2 M h
  exact seg_ok G P_RX4_ok T_X4_makes_ok hca (fun _ h => absurd h List.not_mem_nil) sw_X4_makes_ok krI_ok (kxN_ok (f := eI)) (List.forall_mem_cons.mpr ⟨kf_X4_makes_33 (ok_X4_makes_33 G hca), fun _ h => absurd h List.not_mem_nil⟩) ((e_X4_makes_0 F (f_X4_makes_33 F) x0 x1 x2 M).symm.trans h)
theorem c_X4_makes {q : cL} (hst : q.1.stackTraces = false) {D : Nat} (hD : 4 ≤ D) (F : Nat) (a0 : Nat) (a1 : Nat) (a2 : Nat) (M : cM) (r : Int32 × cM) (h : f_X4_makes F a0 a1 a2 M = some r) : CTx q yX4_makes (.code yX4_makes cX4_makes 4 (some .boolean)) D [.ref a0, .ref a1, .ref a2] M (eI r) ∧ ∃ fs, M[a0]? = some (.inr (3, fs)) := by
  unfold f_X4_makes at h
  split at h
  · next hi => exact ⟨CTx_of (own := RX4) (rk := 1) hst (by decide +kernel) rfl (rfl) (Nat.le_of_ble_eq_true rfl) (fun X hX G => by subst hX; exact ok_X4_makes_0 G (ca_X4_makes_ok hst hD F) a0 a1 a2 M h), isC_of hi⟩
  · cases h
def n_X4_makes {R' : Type} (f : Nat → Nat → Nat → cM → Option (Int32 × cM)) : cFn R' := fun as M κ κx => match as with
  | [.ref a0, .ref a1, .ref a2] => (f a0 a1 a2 M).bind fun p => κ (some (.int p.1)) p.2
  | _ => none
theorem w_X4_makes : ∀ w ∈ [Cond.instanceMethod yX4_makes, .selects yX4_makes.cls yX4_makes yX4_makes, .initialized yX4_makes.cls, .code yX4_makes cX4_makes 4 (some .boolean)], w ∈ lw_good := List.forall_mem_cons.mpr ⟨lw_good_of (tb_ok 555 (by decide +kernel)) rfl, List.forall_mem_cons.mpr ⟨lw_good_of (tb_ok 556 (by decide +kernel)) rfl, List.forall_mem_cons.mpr ⟨lw_good_of (tb_ok 4 (by decide +kernel)) rfl, List.forall_mem_cons.mpr ⟨lw_good_of (tb_ok 557 (by decide +kernel)) rfl, fun _ h => absurd h List.not_mem_nil⟩⟩⟩⟩
theorem n_X4_makes_ok {R' : Type} {q : cL} {own : String} {d k : Nat} {f : Nat → Nat → Nat → cM → Option (Int32 × cM)} (hl : Cond.methodLink own k yX4_makes ∈ lw_good) (hf : ∀ a0 a1 a2 M r, f a0 a1 a2 M = some r → CTx q yX4_makes (.code yX4_makes cX4_makes 4 (some .boolean)) d [.ref a0, .ref a1, .ref a2] M (eI r) ∧ ∃ fs, M[a0]? = some (.inr (3, fs))) : ceS q own d (3 * k + 1) (n_X4_makes (R' := R') f) := by
  intro as M κ κx r h
  unfold n_X4_makes at h
  split at h
  · obtain ⟨p, h1, h2⟩ := Option.bind_eq_some_iff.mp h
    obtain ⟨hc, fs, ha⟩ := hf _ _ _ _ _ h1
    exact ⟨eI p, fun _ => h2, fun hne => absurd rfl hne, Or.inr (Or.inl ⟨yX4_makes, cX4_makes, 4, (some .boolean), k, 2, _, _, 3, TX4, 4, fs, rfl, rfl, hc, ha, rfl, List.forall_mem_cons.mpr ⟨hl, w_X4_makes⟩, ⟨rfl, by decide +kernel, by decide +kernel, by decide +kernel⟩, rfl, by decide⟩)⟩
  · cases h
