/-! METHODS, part 8 (laid by wip/whole/tools/gen.py) -/
-- PatchbayScript$Line.stepOfExample(II)I
def T_X5_stepOfExample : List cRow := [(0, .iconst (-1), 1, 0), (1, .iload_n 0, 2, 0), (2, .iconst 4, 3, 0), (3, .imul, 4, 0), (4, .iload_n 1, 5, 0), (5, .iadd, 6, 0), (6, .isub, 7, 0), (7, .ireturn, 8, 0)]
theorem T_X5_stepOfExample_ok : T_X5_stepOfExample.all (rowB cX5_stepOfExample) = true := by decide +kernel
def th_X5_stepOfExample : List (Nat × Nat) := []
def sw_X5_stepOfExample : List (Nat × (List (Int32 × Nat) × Nat)) := []
theorem sw_X5_stepOfExample_ok : ∀ q ∈ sw_X5_stepOfExample, swS cX5_stepOfExample q := fun _ h => absurd h List.not_mem_nil
def na_X5_stepOfExample : List (Nat × Nat) := []
def ca_X5_stepOfExample {R' : Type} (F : Nat) : List (Nat × cFn R') := []
theorem ca_X5_stepOfExample_ok {R' : Type} {q : cL} (hst : q.1.stackTraces = false) {D : Nat} (hD : 0 ≤ D) (F : Nat) : ∀ x ∈ (ca_X5_stepOfExample (R' := R') F), 1 ≤ D ∧ ceS q RX5 (D - 1) x.1 x.2 := fun _ h => absurd h List.not_mem_nil
theorem e_X5_stepOfExample_0 (F : Nat) (x0 : Int32) (x1 : Int32) (M : cM) : b_X5_stepOfExample_0 F x0 x1 M = run T_X5_stepOfExample P_RX5 false 0 (naL na_X5_stepOfExample) (caL (ca_X5_stepOfExample F)) (lkN th_X5_stepOfExample) (lkN sw_X5_stepOfExample) krI kxN (spL []) (KL []) 11 0 [some (.int x0), some (.int x1)] [] M := rfl
theorem ok_X5_stepOfExample_0 {X : cCtx} {D : Nat} {r : Int32 × cM} (G : FX X 2 (eI r) cX5_stepOfExample RX5 0 D) {F : Nat} (hca : ∀ x ∈ (ca_X5_stepOfExample (R' := Int32 × cM) F), 1 ≤ D ∧ ceS X.1 RX5 (D - 1) x.1 x.2) : ∀ x0 x1 M, f_X5_stepOfExample_0 F x0 x1 M = some r → WX X 2 (eI r) 0 [some (.int x0), some (.int x1)] [] M := by
  intro x0 x1 M h
  exact seg_ok G P_RX5_ok T_X5_stepOfExample_ok hca (fun _ h => absurd h List.not_mem_nil) sw_X5_stepOfExample_ok krI_ok (kxN_ok (f := eI)) (fun _ h => absurd h List.not_mem_nil) ((e_X5_stepOfExample_0 F x0 x1 M).symm.trans h)
theorem c_X5_stepOfExample {q : cL} (hst : q.1.stackTraces = false) {D : Nat} (hD : 0 ≤ D) (F : Nat) (a0 : Int32) (a1 : Int32) (M : cM) (r : Int32 × cM) (h : f_X5_stepOfExample F a0 a1 M = some r) : CTx q yX5_stepOfExample (.code yX5_stepOfExample cX5_stepOfExample 2 (some .int)) D [.int a0, .int a1] M (eI r) := by
  exact CTx_of (own := RX5) (rk := 0) hst (by decide +kernel) rfl (rfl) (Nat.le_of_ble_eq_true rfl) (fun X hX G => by subst hX; exact ok_X5_stepOfExample_0 G (ca_X5_stepOfExample_ok hst hD F) a0 a1 M h)
def n_X5_stepOfExample {R' : Type} (f : Int32 → Int32 → cM → Option (Int32 × cM)) : cFn R' := fun as M κ κx => match as with
  | [.int a0, .int a1] => (f a0 a1 M).bind fun p => κ (some (.int p.1)) p.2
  | _ => none
theorem w_X5_stepOfExample : ∀ w ∈ [Cond.static yX5_stepOfExample, .initialized yX5_stepOfExample.cls, .code yX5_stepOfExample cX5_stepOfExample 2 (some .int)], w ∈ lw_good := List.forall_mem_cons.mpr ⟨lw_good_of (tb_ok 702 (by decide +kernel)) rfl, List.forall_mem_cons.mpr ⟨lw_good_of (tb_ok 6 (by decide +kernel)) rfl, List.forall_mem_cons.mpr ⟨lw_good_of (tb_ok 703 (by decide +kernel)) rfl, fun _ h => absurd h List.not_mem_nil⟩⟩⟩
theorem n_X5_stepOfExample_ok {R' : Type} {q : cL} {own : String} {d k : Nat} {f : Int32 → Int32 → cM → Option (Int32 × cM)} (hl : Cond.methodLink own k yX5_stepOfExample ∈ lw_good) (hf : ∀ a0 a1 M r, f a0 a1 M = some r → CTx q yX5_stepOfExample (.code yX5_stepOfExample cX5_stepOfExample 2 (some .int)) d [.int a0, .int a1] M (eI r)) : ceS q own d (3 * k) (n_X5_stepOfExample (R' := R') f) := by
  intro as M κ κx r h
  unfold n_X5_stepOfExample at h
  split at h
  · obtain ⟨p, h1, h2⟩ := Option.bind_eq_some_iff.mp h
    exact ⟨eI p, fun _ => h2, fun hne => absurd rfl hne, Or.inl ⟨yX5_stepOfExample, cX5_stepOfExample, 2, (some .int), k, 2, rfl, hf _ _ _ _ h1, List.forall_mem_cons.mpr ⟨hl, w_X5_stepOfExample⟩, ⟨by decide +kernel, by decide +kernel, by decide +kernel⟩, rfl, by decide⟩⟩
  · cases h
-- PatchbayScript$Line.taskOfStep(I)I
def T_X5_taskOfStep : List cRow := [(0, .iconst (-1), 1, 0), (1, .iload_n 0, 2, 0), (2, .isub, 3, 0), (3, .iconst 4, 4, 0), (4, .idiv, 5, 0), (5, .ireturn, 6, 0)]
theorem T_X5_taskOfStep_ok : T_X5_taskOfStep.all (rowB cX5_taskOfStep) = true := by decide +kernel
def th_X5_taskOfStep : List (Nat × Nat) := []
def sw_X5_taskOfStep : List (Nat × (List (Int32 × Nat) × Nat)) := []
theorem sw_X5_taskOfStep_ok : ∀ q ∈ sw_X5_taskOfStep, swS cX5_taskOfStep q := fun _ h => absurd h List.not_mem_nil
def na_X5_taskOfStep : List (Nat × Nat) := []
def ca_X5_taskOfStep {R' : Type} (F : Nat) : List (Nat × cFn R') := []
theorem ca_X5_taskOfStep_ok {R' : Type} {q : cL} (hst : q.1.stackTraces = false) {D : Nat} (hD : 0 ≤ D) (F : Nat) : ∀ x ∈ (ca_X5_taskOfStep (R' := R') F), 1 ≤ D ∧ ceS q RX5 (D - 1) x.1 x.2 := fun _ h => absurd h List.not_mem_nil
theorem e_X5_taskOfStep_0 (F : Nat) (x0 : Int32) (M : cM) : b_X5_taskOfStep_0 F x0 M = run T_X5_taskOfStep P_RX5 false 0 (naL na_X5_taskOfStep) (caL (ca_X5_taskOfStep F)) (lkN th_X5_taskOfStep) (lkN sw_X5_taskOfStep) krI kxN (spL []) (KL []) 9 0 [some (.int x0)] [] M := rfl
theorem ok_X5_taskOfStep_0 {X : cCtx} {D : Nat} {r : Int32 × cM} (G : FX X 1 (eI r) cX5_taskOfStep RX5 0 D) {F : Nat} (hca : ∀ x ∈ (ca_X5_taskOfStep (R' := Int32 × cM) F), 1 ≤ D ∧ ceS X.1 RX5 (D - 1) x.1 x.2) : ∀ x0 M, f_X5_taskOfStep_0 F x0 M = some r → WX X 1 (eI r) 0 [some (.int x0)] [] M := by
  intro x0 M h
  exact seg_ok G P_RX5_ok T_X5_taskOfStep_ok hca (fun _ h => absurd h List.not_mem_nil) sw_X5_taskOfStep_ok krI_ok (kxN_ok (f := eI)) (fun _ h => absurd h List.not_mem_nil) ((e_X5_taskOfStep_0 F x0 M).symm.trans h)
theorem c_X5_taskOfStep {q : cL} (hst : q.1.stackTraces = false) {D : Nat} (hD : 0 ≤ D) (F : Nat) (a0 : Int32) (M : cM) (r : Int32 × cM) (h : f_X5_taskOfStep F a0 M = some r) : CTx q yX5_taskOfStep (.code yX5_taskOfStep cX5_taskOfStep 1 (some .int)) D [.int a0] M (eI r) := by
  exact CTx_of (own := RX5) (rk := 0) hst (by decide +kernel) rfl (rfl) (Nat.le_of_ble_eq_true rfl) (fun X hX G => by subst hX; exact ok_X5_taskOfStep_0 G (ca_X5_taskOfStep_ok hst hD F) a0 M h)
def n_X5_taskOfStep {R' : Type} (f : Int32 → cM → Option (Int32 × cM)) : cFn R' := fun as M κ κx => match as with
  | [.int a0] => (f a0 M).bind fun p => κ (some (.int p.1)) p.2
  | _ => none
theorem w_X5_taskOfStep : ∀ w ∈ [Cond.static yX5_taskOfStep, .initialized yX5_taskOfStep.cls, .code yX5_taskOfStep cX5_taskOfStep 1 (some .int)], w ∈ lw_good := List.forall_mem_cons.mpr ⟨lw_good_of (tb_ok 1079 (by decide +kernel)) rfl, List.forall_mem_cons.mpr ⟨lw_good_of (tb_ok 6 (by decide +kernel)) rfl, List.forall_mem_cons.mpr ⟨lw_good_of (tb_ok 1080 (by decide +kernel)) rfl, fun _ h => absurd h List.not_mem_nil⟩⟩⟩
theorem n_X5_taskOfStep_ok {R' : Type} {q : cL} {own : String} {d k : Nat} {f : Int32 → cM → Option (Int32 × cM)} (hl : Cond.methodLink own k yX5_taskOfStep ∈ lw_good) (hf : ∀ a0 M r, f a0 M = some r → CTx q yX5_taskOfStep (.code yX5_taskOfStep cX5_taskOfStep 1 (some .int)) d [.int a0] M (eI r)) : ceS q own d (3 * k) (n_X5_taskOfStep (R' := R') f) := by
  intro as M κ κx r h
  unfold n_X5_taskOfStep at h
  split at h
  · obtain ⟨p, h1, h2⟩ := Option.bind_eq_some_iff.mp h
    exact ⟨eI p, fun _ => h2, fun hne => absurd rfl hne, Or.inl ⟨yX5_taskOfStep, cX5_taskOfStep, 1, (some .int), k, 1, rfl, hf _ _ _ h1, List.forall_mem_cons.mpr ⟨hl, w_X5_taskOfStep⟩, ⟨by decide +kernel, by decide +kernel, by decide +kernel⟩, rfl, by decide⟩⟩
  · cases h
-- PatchbayScript$Line.exampleOfStep(I)I
def T_X5_exampleOfStep : List cRow := [(0, .iconst (-1), 1, 0), (1, .iload_n 0, 2, 0), (2, .isub, 3, 0), (3, .iconst 4, 4, 0), (4, .irem, 5, 0), (5, .ireturn, 6, 0)]
theorem T_X5_exampleOfStep_ok : T_X5_exampleOfStep.all (rowB cX5_exampleOfStep) = true := by decide +kernel
def th_X5_exampleOfStep : List (Nat × Nat) := []
def sw_X5_exampleOfStep : List (Nat × (List (Int32 × Nat) × Nat)) := []
theorem sw_X5_exampleOfStep_ok : ∀ q ∈ sw_X5_exampleOfStep, swS cX5_exampleOfStep q := fun _ h => absurd h List.not_mem_nil
def na_X5_exampleOfStep : List (Nat × Nat) := []
def ca_X5_exampleOfStep {R' : Type} (F : Nat) : List (Nat × cFn R') := []
theorem ca_X5_exampleOfStep_ok {R' : Type} {q : cL} (hst : q.1.stackTraces = false) {D : Nat} (hD : 0 ≤ D) (F : Nat) : ∀ x ∈ (ca_X5_exampleOfStep (R' := R') F), 1 ≤ D ∧ ceS q RX5 (D - 1) x.1 x.2 := fun _ h => absurd h List.not_mem_nil
theorem e_X5_exampleOfStep_0 (F : Nat) (x0 : Int32) (M : cM) : b_X5_exampleOfStep_0 F x0 M = run T_X5_exampleOfStep P_RX5 false 0 (naL na_X5_exampleOfStep) (caL (ca_X5_exampleOfStep F)) (lkN th_X5_exampleOfStep) (lkN sw_X5_exampleOfStep) krI kxN (spL []) (KL []) 9 0 [some (.int x0)] [] M := rfl
theorem ok_X5_exampleOfStep_0 {X : cCtx} {D : Nat} {r : Int32 × cM} (G : FX X 1 (eI r) cX5_exampleOfStep RX5 0 D) {F : Nat} (hca : ∀ x ∈ (ca_X5_exampleOfStep (R' := Int32 × cM) F), 1 ≤ D ∧ ceS X.1 RX5 (D - 1) x.1 x.2) : ∀ x0 M, f_X5_exampleOfStep_0 F x0 M = some r → WX X 1 (eI r) 0 [some (.int x0)] [] M := by
  intro x0 M h
  exact seg_ok G P_RX5_ok T_X5_exampleOfStep_ok hca (fun _ h => absurd h List.not_mem_nil) sw_X5_exampleOfStep_ok krI_ok (kxN_ok (f := eI)) (fun _ h => absurd h List.not_mem_nil) ((e_X5_exampleOfStep_0 F x0 M).symm.trans h)
theorem c_X5_exampleOfStep {q : cL} (hst : q.1.stackTraces = false) {D : Nat} (hD : 0 ≤ D) (F : Nat) (a0 : Int32) (M : cM) (r : Int32 × cM) (h : f_X5_exampleOfStep F a0 M = some r) : CTx q yX5_exampleOfStep (.code yX5_exampleOfStep cX5_exampleOfStep 1 (some .int)) D [.int a0] M (eI r) := by
  exact CTx_of (own := RX5) (rk := 0) hst (by decide +kernel) rfl (rfl) (Nat.le_of_ble_eq_true rfl) (fun X hX G => by subst hX; exact ok_X5_exampleOfStep_0 G (ca_X5_exampleOfStep_ok hst hD F) a0 M h)
def n_X5_exampleOfStep {R' : Type} (f : Int32 → cM → Option (Int32 × cM)) : cFn R' := fun as M κ κx => match as with
  | [.int a0] => (f a0 M).bind fun p => κ (some (.int p.1)) p.2
  | _ => none
theorem w_X5_exampleOfStep : ∀ w ∈ [Cond.static yX5_exampleOfStep, .initialized yX5_exampleOfStep.cls, .code yX5_exampleOfStep cX5_exampleOfStep 1 (some .int)], w ∈ lw_good := List.forall_mem_cons.mpr ⟨lw_good_of (tb_ok 1082 (by decide +kernel)) rfl, List.forall_mem_cons.mpr ⟨lw_good_of (tb_ok 6 (by decide +kernel)) rfl, List.forall_mem_cons.mpr ⟨lw_good_of (tb_ok 1083 (by decide +kernel)) rfl, fun _ h => absurd h List.not_mem_nil⟩⟩⟩
theorem n_X5_exampleOfStep_ok {R' : Type} {q : cL} {own : String} {d k : Nat} {f : Int32 → cM → Option (Int32 × cM)} (hl : Cond.methodLink own k yX5_exampleOfStep ∈ lw_good) (hf : ∀ a0 M r, f a0 M = some r → CTx q yX5_exampleOfStep (.code yX5_exampleOfStep cX5_exampleOfStep 1 (some .int)) d [.int a0] M (eI r)) : ceS q own d (3 * k) (n_X5_exampleOfStep (R' := R') f) := by
  intro as M κ κx r h
  unfold n_X5_exampleOfStep at h
  split at h
  · obtain ⟨p, h1, h2⟩ := Option.bind_eq_some_iff.mp h
    exact ⟨eI p, fun _ => h2, fun hne => absurd rfl hne, Or.inl ⟨yX5_exampleOfStep, cX5_exampleOfStep, 1, (some .int), k, 1, rfl, hf _ _ _ h1, List.forall_mem_cons.mpr ⟨hl, w_X5_exampleOfStep⟩, ⟨by decide +kernel, by decide +kernel, by decide +kernel⟩, rfl, by decide⟩⟩
  · cases h
-- PatchbayScript$Line.begin(LPatchbayScript$Text;)V
def T_X5_begin : List cRow := [(0, .aload_n 0, 1, 0), (1, .getfield 12, 4, 0), (4, .aload_n 1, 5, 0), (5, .invokevirtual 27, 8, 0), (8, .aload_n 0, 9, 0), (9, .getfield 18, 12, 0), (12, .aload_n 1, 13, 0), (13, .invokevirtual 27, 16, 0), (16, .return_, 17, 0)]
theorem T_X5_begin_ok : T_X5_begin.all (rowB cX5_begin) = true := by decide +kernel
def th_X5_begin : List (Nat × Nat) := []
def sw_X5_begin : List (Nat × (List (Int32 × Nat) × Nat)) := []
theorem sw_X5_begin_ok : ∀ q ∈ sw_X5_begin, swS cX5_begin q := fun _ h => absurd h List.not_mem_nil
def na_X5_begin : List (Nat × Nat) := [(82, 2)]
def ca_X5_begin {R' : Type} (F : Nat) : List (Nat × cFn R') := [(82, n_X10_set (f_X10_set F))]
theorem ca_X5_begin_ok {R' : Type} {q : cL} (hst : q.1.stackTraces = false) {D : Nat} (hD : 1 ≤ D) (F : Nat) : ∀ x ∈ (ca_X5_begin (R' := R') F), 1 ≤ D ∧ ceS q RX5 (D - 1) x.1 x.2 := List.forall_mem_cons.mpr ⟨⟨by omega, n_X10_set_ok (k := 27) (lw_good_of (tb_ok 530 (by decide +kernel)) rfl) (fun a0 a1 M r h => c_X10_set hst (by omega) F a0 a1 M r h)⟩, fun _ h => absurd h List.not_mem_nil⟩
theorem e_X5_begin_0 (F : Nat) (x0 : Nat) (x1 : Nat) (M : cM) : b_X5_begin_0 F x0 x1 M = run T_X5_begin P_RX5 false 5 (naL na_X5_begin) (caL (ca_X5_begin F)) (lkN th_X5_begin) (lkN sw_X5_begin) krV kxN (spL []) (KL []) 12 0 [some (.ref x0), some (.ref x1)] [] M := rfl
theorem ok_X5_begin_0 {X : cCtx} {D : Nat} {r : cM} (G : FX X 2 (eV r) cX5_begin RX5 5 D) {F : Nat} (hca : ∀ x ∈ (ca_X5_begin (R' := cM) F), 1 ≤ D ∧ ceS X.1 RX5 (D - 1) x.1 x.2) : ∀ x0 x1 M, f_X5_begin_0 F x0 x1 M = some r → WX X 2 (eV r) 0 [some (.ref x0), some (.ref x1)] [] M := by
  intro x0 x1 M h
  exact seg_ok G P_RX5_ok T_X5_begin_ok hca (fun _ h => absurd h List.not_mem_nil) sw_X5_begin_ok krV_ok (kxN_ok (f := eV)) (fun _ h => absurd h List.not_mem_nil) ((e_X5_begin_0 F x0 x1 M).symm.trans h)
theorem c_X5_begin {q : cL} (hst : q.1.stackTraces = false) {D : Nat} (hD : 1 ≤ D) (F : Nat) (a0 : Nat) (a1 : Nat) (M : cM) (r : cM) (h : f_X5_begin F a0 a1 M = some r) : CTx q yX5_begin (.code yX5_begin cX5_begin 2 none) D [.ref a0, .ref a1] M (eV r) ∧ ∃ fs, M[a0]? = some (.inr (4, fs)) := by
  unfold f_X5_begin at h
  split at h
  · next hi => exact ⟨CTx_of (own := RX5) (rk := 5) hst (by decide +kernel) rfl (rfl) (Nat.le_of_ble_eq_true rfl) (fun X hX G => by subst hX; exact ok_X5_begin_0 G (ca_X5_begin_ok hst hD F) a0 a1 M h), isC_of hi⟩
  · cases h
def n_X5_begin {R' : Type} (f : Nat → Nat → cM → Option (cM)) : cFn R' := fun as M κ κx => match as with
  | [.ref a0, .ref a1] => (f a0 a1 M).bind fun p => κ none p
  | _ => none
theorem w_X5_begin : ∀ w ∈ [Cond.instanceMethod yX5_begin, .selects yX5_begin.cls yX5_begin yX5_begin, .initialized yX5_begin.cls, .code yX5_begin cX5_begin 2 none], w ∈ lw_good := List.forall_mem_cons.mpr ⟨lw_good_of (tb_ok 527 (by decide +kernel)) rfl, List.forall_mem_cons.mpr ⟨lw_good_of (tb_ok 528 (by decide +kernel)) rfl, List.forall_mem_cons.mpr ⟨lw_good_of (tb_ok 6 (by decide +kernel)) rfl, List.forall_mem_cons.mpr ⟨lw_good_of (tb_ok 529 (by decide +kernel)) rfl, fun _ h => absurd h List.not_mem_nil⟩⟩⟩⟩
theorem n_X5_begin_ok {R' : Type} {q : cL} {own : String} {d k : Nat} {f : Nat → Nat → cM → Option (cM)} (hl : Cond.methodLink own k yX5_begin ∈ lw_good) (hf : ∀ a0 a1 M r, f a0 a1 M = some r → CTx q yX5_begin (.code yX5_begin cX5_begin 2 none) d [.ref a0, .ref a1] M (eV r) ∧ ∃ fs, M[a0]? = some (.inr (4, fs))) : ceS q own d (3 * k + 1) (n_X5_begin (R' := R') f) := by
  intro as M κ κx r h
  unfold n_X5_begin at h
  split at h
  · obtain ⟨p, h1, h2⟩ := Option.bind_eq_some_iff.mp h
    obtain ⟨hc, fs, ha⟩ := hf _ _ _ _ h1
    exact ⟨eV p, fun _ => h2, fun hne => absurd rfl hne, Or.inr (Or.inl ⟨yX5_begin, cX5_begin, 2, none, k, 1, _, _, 4, TX5, 4, fs, rfl, rfl, hc, ha, rfl, List.forall_mem_cons.mpr ⟨hl, w_X5_begin⟩, ⟨rfl, by decide +kernel, by decide +kernel, by decide +kernel⟩, rfl, by decide⟩)⟩
  · cases h
-- PatchbayScript$Line.addStep(ILPatchbayScript$Text;)V
def T_X5_addStep : List cRow := [(0, .aload_n 0, 1, 0), (1, .getfield 31, 4, 0), (4, .bipush 33, 6, 0), (6, .if_icmp .ge 31, 9, 37), (9, .aload_n 0, 10, 0), (10, .getfield 21, 13, 0), (13, .aload_n 0, 14, 0), (14, .getfield 31, 17, 0), (17, .iload_n 1, 18, 0), (18, .iastore, 19, 0), (19, .aload_n 0, 20, 0), (20, .dup, 21, 0), (21, .getfield 31, 24, 0), (24, .iconst 1, 25, 0), (25, .iadd, 26, 0), (26, .putfield 31, 29, 0), (29, .aload_n 0, 30, 0), (30, .getfield 18, 33, 0), (33, .aload_n 2, 34, 0), (34, .invokevirtual 27, 37, 0), (37, .return_, 38, 0)]
theorem T_X5_addStep_ok : T_X5_addStep.all (rowB cX5_addStep) = true := by decide +kernel
def th_X5_addStep : List (Nat × Nat) := []
def sw_X5_addStep : List (Nat × (List (Int32 × Nat) × Nat)) := []
theorem sw_X5_addStep_ok : ∀ q ∈ sw_X5_addStep, swS cX5_addStep q := fun _ h => absurd h List.not_mem_nil
def na_X5_addStep : List (Nat × Nat) := [(82, 2)]
def ca_X5_addStep {R' : Type} (F : Nat) : List (Nat × cFn R') := [(82, n_X10_set (f_X10_set F))]
theorem ca_X5_addStep_ok {R' : Type} {q : cL} (hst : q.1.stackTraces = false) {D : Nat} (hD : 1 ≤ D) (F : Nat) : ∀ x ∈ (ca_X5_addStep (R' := R') F), 1 ≤ D ∧ ceS q RX5 (D - 1) x.1 x.2 := List.forall_mem_cons.mpr ⟨⟨by omega, n_X10_set_ok (k := 27) (lw_good_of (tb_ok 530 (by decide +kernel)) rfl) (fun a0 a1 M r h => c_X10_set hst (by omega) F a0 a1 M r h)⟩, fun _ h => absurd h List.not_mem_nil⟩
theorem e_X5_addStep_0 (F : Nat) (x0 : Nat) (x1 : Int32) (x2 : Nat) (M : cM) : b_X5_addStep_0 F x0 x1 x2 M = run T_X5_addStep P_RX5 false 5 (naL na_X5_addStep) (caL (ca_X5_addStep F)) (lkN th_X5_addStep) (lkN sw_X5_addStep) krV kxN (spL []) (KL []) 24 0 [some (.ref x0), some (.int x1), some (.ref x2)] [] M := rfl
theorem ok_X5_addStep_0 {X : cCtx} {D : Nat} {r : cM} (G : FX X 3 (eV r) cX5_addStep RX5 5 D) {F : Nat} (hca : ∀ x ∈ (ca_X5_addStep (R' := cM) F), 1 ≤ D ∧ ceS X.1 RX5 (D - 1) x.1 x.2) : ∀ x0 x1 x2 M, f_X5_addStep_0 F x0 x1 x2 M = some r → WX X 3 (eV r) 0 [some (.ref x0), some (.int x1), some (.ref x2)] [] M := by
  intro x0 x1 x2 M h
  exact seg_ok G P_RX5_ok T_X5_addStep_ok hca (fun _ h => absurd h List.not_mem_nil) sw_X5_addStep_ok krV_ok (kxN_ok (f := eV)) (fun _ h => absurd h List.not_mem_nil) ((e_X5_addStep_0 F x0 x1 x2 M).symm.trans h)
theorem c_X5_addStep {q : cL} (hst : q.1.stackTraces = false) {D : Nat} (hD : 1 ≤ D) (F : Nat) (a0 : Nat) (a1 : Int32) (a2 : Nat) (M : cM) (r : cM) (h : f_X5_addStep F a0 a1 a2 M = some r) : CTx q yX5_addStep (.code yX5_addStep cX5_addStep 3 none) D [.ref a0, .int a1, .ref a2] M (eV r) ∧ ∃ fs, M[a0]? = some (.inr (4, fs)) := by
  unfold f_X5_addStep at h
  split at h
  · next hi => exact ⟨CTx_of (own := RX5) (rk := 5) hst (by decide +kernel) rfl (rfl) (Nat.le_of_ble_eq_true rfl) (fun X hX G => by subst hX; exact ok_X5_addStep_0 G (ca_X5_addStep_ok hst hD F) a0 a1 a2 M h), isC_of hi⟩
  · cases h
def n_X5_addStep {R' : Type} (f : Nat → Int32 → Nat → cM → Option (cM)) : cFn R' := fun as M κ κx => match as with
  | [.ref a0, .int a1, .ref a2] => (f a0 a1 a2 M).bind fun p => κ none p
  | _ => none
theorem w_X5_addStep : ∀ w ∈ [Cond.instanceMethod yX5_addStep, .selects yX5_addStep.cls yX5_addStep yX5_addStep, .initialized yX5_addStep.cls, .code yX5_addStep cX5_addStep 3 none], w ∈ lw_good := List.forall_mem_cons.mpr ⟨lw_good_of (tb_ok 629 (by decide +kernel)) rfl, List.forall_mem_cons.mpr ⟨lw_good_of (tb_ok 630 (by decide +kernel)) rfl, List.forall_mem_cons.mpr ⟨lw_good_of (tb_ok 6 (by decide +kernel)) rfl, List.forall_mem_cons.mpr ⟨lw_good_of (tb_ok 631 (by decide +kernel)) rfl, fun _ h => absurd h List.not_mem_nil⟩⟩⟩⟩
theorem n_X5_addStep_ok {R' : Type} {q : cL} {own : String} {d k : Nat} {f : Nat → Int32 → Nat → cM → Option (cM)} (hl : Cond.methodLink own k yX5_addStep ∈ lw_good) (hf : ∀ a0 a1 a2 M r, f a0 a1 a2 M = some r → CTx q yX5_addStep (.code yX5_addStep cX5_addStep 3 none) d [.ref a0, .int a1, .ref a2] M (eV r) ∧ ∃ fs, M[a0]? = some (.inr (4, fs))) : ceS q own d (3 * k + 1) (n_X5_addStep (R' := R') f) := by
  intro as M κ κx r h
  unfold n_X5_addStep at h
  split at h
  · obtain ⟨p, h1, h2⟩ := Option.bind_eq_some_iff.mp h
    obtain ⟨hc, fs, ha⟩ := hf _ _ _ _ _ h1
    exact ⟨eV p, fun _ => h2, fun hne => absurd rfl hne, Or.inr (Or.inl ⟨yX5_addStep, cX5_addStep, 3, none, k, 2, _, _, 4, TX5, 4, fs, rfl, rfl, hc, ha, rfl, List.forall_mem_cons.mpr ⟨hl, w_X5_addStep⟩, ⟨rfl, by decide +kernel, by decide +kernel, by decide +kernel⟩, rfl, by decide⟩)⟩
  · cases h
-- PatchbayScript$Line.hasStep(I)Z
def T_X5_hasStep : List cRow := [(0, .iconst 0, 1, 0), (1, .istore_n 2, 2, 0), (2, .iload_n 2, 3, 0), (3, .aload_n 0, 4, 0), (4, .getfield 31, 7, 0), (7, .if_icmp .ge 27, 10, 34), (10, .iload_n 2, 11, 0), (11, .bipush 33, 13, 0), (13, .if_icmp .ge 21, 16, 34), (16, .aload_n 0, 17, 0), (17, .getfield 21, 20, 0), (20, .iload_n 2, 21, 0), (21, .iaload, 22, 0), (22, .iload_n 1, 23, 0), (23, .if_icmp .ne 5, 26, 28), (26, .iconst 1, 27, 0), (27, .ireturn, 28, 0), (28, .iinc 2 1, 31, 0), (31, .goto (-29), 34, 2), (34, .iconst 0, 35, 0), (35, .ireturn, 36, 0)]
theorem T_X5_hasStep_ok : T_X5_hasStep.all (rowB cX5_hasStep) = true := by decide +kernel
def th_X5_hasStep : List (Nat × Nat) := []
def sw_X5_hasStep : List (Nat × (List (Int32 × Nat) × Nat)) := []
theorem sw_X5_hasStep_ok : ∀ q ∈ sw_X5_hasStep, swS cX5_hasStep q := fun _ h => absurd h List.not_mem_nil
def na_X5_hasStep : List (Nat × Nat) := []
def ca_X5_hasStep {R' : Type} (F : Nat) : List (Nat × cFn R') := []
theorem ca_X5_hasStep_ok {R' : Type} {q : cL} (hst : q.1.stackTraces = false) {D : Nat} (hD : 0 ≤ D) (F : Nat) : ∀ x ∈ (ca_X5_hasStep (R' := R') F), 1 ≤ D ∧ ceS q RX5 (D - 1) x.1 x.2 := fun _ h => absurd h List.not_mem_nil
def kd_X5_hasStep_2 (g : Nat → Int32 → Int32 → cM → Option (Int32 × cM)) : cKf (Int32 × cM) := fun vs st M => (lR vs 0).bind fun x0 => (lI vs 1).bind fun x1 => (lI vs 2).bind fun x2 => match st with
  | [] => g x0 x1 x2 M
  | _ => none
theorem kf_X5_hasStep_2 {X : cCtx} {o : cO} {r : Int32 × cM} {g : Nat → Int32 → Int32 → cM → Option (Int32 × cM)} (hg : ∀ x0 x1 x2 M, g x0 x1 x2 M = some r → WX X 3 o 2 [some (.ref x0), some (.int x1), some (.int x2)] [] M) : ∀ vs st M, kd_X5_hasStep_2 g vs st M = some r → WX X 3 o 2 vs st M := by
  intro vs st M h
  unfold kd_X5_hasStep_2 at h
  obtain ⟨x0, h0, h⟩ := Option.bind_eq_some_iff.mp h
  obtain ⟨x1, h1, h⟩ := Option.bind_eq_some_iff.mp h
  obtain ⟨x2, h2, h⟩ := Option.bind_eq_some_iff.mp h
  split at h
  · exact WX_weak (hg _ _ _ _ h) rfl ⟨lR_of h0, lI_of h1, lI_of h2, trivial⟩
  · cases h
theorem e_X5_hasStep_2 (F : Nat) (t2 : Nat → Int32 → Int32 → cM → Option (Int32 × cM)) (x0 : Nat) (x1 : Int32) (x2 : Int32) (M : cM) : b_X5_hasStep_2 F t2 x0 x1 x2 M = run T_X5_hasStep P_RX5 false 1 (naL na_X5_hasStep) (caL (ca_X5_hasStep F)) (lkN th_X5_hasStep) (lkN sw_X5_hasStep) krI kxN (spL [2]) (KL [(2, kd_X5_hasStep_2 t2)]) 24 2 [some (.ref x0), some (.int x1), some (.int x2)] [] M := rfl
theorem ok_X5_hasStep_2 {X : cCtx} {D : Nat} {r : Int32 × cM} (G : FX X 3 (eI r) cX5_hasStep RX5 1 D) {F : Nat} (hca : ∀ x ∈ (ca_X5_hasStep (R' := Int32 × cM) F), 1 ≤ D ∧ ceS X.1 RX5 (D - 1) x.1 x.2) (n : Nat) : ∀ x0 x1 x2 M, f_X5_hasStep_2 F n x0 x1 x2 M = some r → WX X 3 (eI r) 2 [some (.ref x0), some (.int x1), some (.int x2)] [] M := by
  induction n with
  | zero => intro x0 x1 x2 M h; cases h
  | succ n ih =>
    intro x0 x1 x2 M h
    exact seg_ok G P_RX5_ok T_X5_hasStep_ok hca (fun _ h => absurd h List.not_mem_nil) sw_X5_hasStep_ok krI_ok (kxN_ok (f := eI)) (List.forall_mem_cons.mpr ⟨kf_X5_hasStep_2 (ih), fun _ h => absurd h List.not_mem_nil⟩) ((e_X5_hasStep_2 F (f_X5_hasStep_2 F n) x0 x1 x2 M).symm.trans h)
theorem e_X5_hasStep_0 (F : Nat) (t2 : Nat → Int32 → Int32 → cM → Option (Int32 × cM)) (x0 : Nat) (x1 : Int32) (M : cM) : b_X5_hasStep_0 F t2 x0 x1 M = run T_X5_hasStep P_RX5 false 1 (naL na_X5_hasStep) (caL (ca_X5_hasStep F)) (lkN th_X5_hasStep) (lkN sw_X5_hasStep) krI kxN (spL [2]) (KL [(2, kd_X5_hasStep_2 t2)]) 24 0 [some (.ref x0), some (.int x1), none] [] M := rfl
theorem ok_X5_hasStep_0 {X : cCtx} {D : Nat} {r : Int32 × cM} (G : FX X 3 (eI r) cX5_hasStep RX5 1 D) {F : Nat} (hca : ∀ x ∈ (ca_X5_hasStep (R' := Int32 × cM) F), 1 ≤ D ∧ ceS X.1 RX5 (D - 1) x.1 x.2) : ∀ x0 x1 M, f_X5_hasStep_0 F x0 x1 M = some r → WX X 3 (eI r) 0 [some (.ref x0), some (.int x1), none] [] M := by
  intro x0 x1 M h
  exact seg_ok G P_RX5_ok T_X5_hasStep_ok hca (fun _ h => absurd h List.not_mem_nil) sw_X5_hasStep_ok krI_ok (kxN_ok (f := eI)) (List.forall_mem_cons.mpr ⟨kf_X5_hasStep_2 (ok_X5_hasStep_2 G hca F), fun _ h => absurd h List.not_mem_nil⟩) ((e_X5_hasStep_0 F (f_X5_hasStep_2 F F) x0 x1 M).symm.trans h)
theorem c_X5_hasStep {q : cL} (hst : q.1.stackTraces = false) {D : Nat} (hD : 0 ≤ D) (F : Nat) (a0 : Nat) (a1 : Int32) (M : cM) (r : Int32 × cM) (h : f_X5_hasStep F a0 a1 M = some r) : CTx q yX5_hasStep (.code yX5_hasStep cX5_hasStep 3 (some .boolean)) D [.ref a0, .int a1] M (eI r) ∧ ∃ fs, M[a0]? = some (.inr (4, fs)) := by
  unfold f_X5_hasStep at h
  split at h
  · next hi => exact ⟨CTx_of (own := RX5) (rk := 1) hst (by decide +kernel) rfl (rfl) (Nat.le_of_ble_eq_true rfl) (fun X hX G => by subst hX; exact ok_X5_hasStep_0 G (ca_X5_hasStep_ok hst hD F) a0 a1 M h), isC_of hi⟩
  · cases h
def n_X5_hasStep {R' : Type} (f : Nat → Int32 → cM → Option (Int32 × cM)) : cFn R' := fun as M κ κx => match as with
  | [.ref a0, .int a1] => (f a0 a1 M).bind fun p => κ (some (.int p.1)) p.2
  | _ => none
theorem w_X5_hasStep : ∀ w ∈ [Cond.instanceMethod yX5_hasStep, .selects yX5_hasStep.cls yX5_hasStep yX5_hasStep, .initialized yX5_hasStep.cls, .code yX5_hasStep cX5_hasStep 3 (some .boolean)], w ∈ lw_good := List.forall_mem_cons.mpr ⟨lw_good_of (tb_ok 1066 (by decide +kernel)) rfl, List.forall_mem_cons.mpr ⟨lw_good_of (tb_ok 1067 (by decide +kernel)) rfl, List.forall_mem_cons.mpr ⟨lw_good_of (tb_ok 6 (by decide +kernel)) rfl, List.forall_mem_cons.mpr ⟨lw_good_of (tb_ok 1068 (by decide +kernel)) rfl, fun _ h => absurd h List.not_mem_nil⟩⟩⟩⟩
theorem n_X5_hasStep_ok {R' : Type} {q : cL} {own : String} {d k : Nat} {f : Nat → Int32 → cM → Option (Int32 × cM)} (hl : Cond.methodLink own k yX5_hasStep ∈ lw_good) (hf : ∀ a0 a1 M r, f a0 a1 M = some r → CTx q yX5_hasStep (.code yX5_hasStep cX5_hasStep 3 (some .boolean)) d [.ref a0, .int a1] M (eI r) ∧ ∃ fs, M[a0]? = some (.inr (4, fs))) : ceS q own d (3 * k + 1) (n_X5_hasStep (R' := R') f) := by
  intro as M κ κx r h
  unfold n_X5_hasStep at h
  split at h
  · obtain ⟨p, h1, h2⟩ := Option.bind_eq_some_iff.mp h
    obtain ⟨hc, fs, ha⟩ := hf _ _ _ _ h1
    exact ⟨eI p, fun _ => h2, fun hne => absurd rfl hne, Or.inr (Or.inl ⟨yX5_hasStep, cX5_hasStep, 3, (some .boolean), k, 1, _, _, 4, TX5, 4, fs, rfl, rfl, hc, ha, rfl, List.forall_mem_cons.mpr ⟨hl, w_X5_hasStep⟩, ⟨rfl, by decide +kernel, by decide +kernel, by decide +kernel⟩, rfl, by decide⟩)⟩
  · cases h
-- PatchbayScript$Sign.isOfTexts(C)Z
def T_X7_isOfTexts : List cRow := [(0, .iload_n 0, 1, 0), (1, .iconst 0, 2, 0), (2, .invokestatic 7, 5, 0), (5, .ifCond .ne 11, 8, 16), (8, .iload_n 0, 9, 0), (9, .iconst 1, 10, 0), (10, .invokestatic 7, 13, 0), (13, .ifCond .eq 5, 16, 18), (16, .iconst 1, 17, 0), (17, .ireturn, 18, 0), (18, .iconst 1, 19, 0), (19, .istore_n 1, 20, 0), (20, .iload_n 1, 21, 0), (21, .bipush 6, 23, 0), (23, .if_icmp .ge 19, 26, 42), (26, .iload_n 0, 27, 0), (27, .iload_n 1, 28, 0), (28, .invokestatic 13, 31, 0), (31, .if_icmp .ne 5, 34, 36), (34, .iconst 1, 35, 0), (35, .ireturn, 36, 0), (36, .iinc 1 1, 39, 0), (39, .goto (-19), 42, 20), (42, .iconst 0, 43, 0), (43, .ireturn, 44, 0)]
theorem T_X7_isOfTexts_ok : T_X7_isOfTexts.all (rowB cX7_isOfTexts) = true := by decide +kernel
def th_X7_isOfTexts : List (Nat × Nat) := []
def sw_X7_isOfTexts : List (Nat × (List (Int32 × Nat) × Nat)) := []
theorem sw_X7_isOfTexts_ok : ∀ q ∈ sw_X7_isOfTexts, swS cX7_isOfTexts q := fun _ h => absurd h List.not_mem_nil
def na_X7_isOfTexts : List (Nat × Nat) := [(21, 2), (39, 1)]
def ca_X7_isOfTexts {R' : Type} (F : Nat) : List (Nat × cFn R') := [(21, n_X7_isOf (f_X7_isOf F)), (39, n_X7_markOf (f_X7_markOf F))]
theorem ca_X7_isOfTexts_ok {R' : Type} {q : cL} (hst : q.1.stackTraces = false) {D : Nat} (hD : 1 ≤ D) (F : Nat) : ∀ x ∈ (ca_X7_isOfTexts (R' := R') F), 1 ≤ D ∧ ceS q RX7 (D - 1) x.1 x.2 := List.forall_mem_cons.mpr ⟨⟨by omega, n_X7_isOf_ok (k := 7) (lw_good_of (tb_ok 418 (by decide +kernel)) rfl) (fun a0 a1 M r h => c_X7_isOf hst (by omega) F a0 a1 M r h)⟩, List.forall_mem_cons.mpr ⟨⟨by omega, n_X7_markOf_ok (k := 13) (lw_good_of (tb_ok 421 (by decide +kernel)) rfl) (fun a0 M r h => c_X7_markOf hst (by omega) F a0 M r h)⟩, fun _ h => absurd h List.not_mem_nil⟩⟩
def kd_X7_isOfTexts_20 (g : Int32 → Int32 → cM → Option (Int32 × cM)) : cKf (Int32 × cM) := fun vs st M => (lI vs 0).bind fun x0 => (lI vs 1).bind fun x1 => match st with
  | [] => g x0 x1 M
  | _ => none
theorem kf_X7_isOfTexts_20 {X : cCtx} {o : cO} {r : Int32 × cM} {g : Int32 → Int32 → cM → Option (Int32 × cM)} (hg : ∀ x0 x1 M, g x0 x1 M = some r → WX X 2 o 20 [some (.int x0), some (.int x1)] [] M) : ∀ vs st M, kd_X7_isOfTexts_20 g vs st M = some r → WX X 2 o 20 vs st M := by
  intro vs st M h
  unfold kd_X7_isOfTexts_20 at h
  obtain ⟨x0, h0, h⟩ := Option.bind_eq_some_iff.mp h
  obtain ⟨x1, h1, h⟩ := Option.bind_eq_some_iff.mp h
  split at h
  · exact WX_weak (hg _ _ _ h) rfl ⟨lI_of h0, lI_of h1, trivial⟩
  · cases h
theorem e_X7_isOfTexts_20 (F : Nat) (t20 : Int32 → Int32 → cM → Option (Int32 × cM)) (x0 : Int32) (x1 : Int32) (M : cM) : b_X7_isOfTexts_20 F t20 x0 x1 M = run T_X7_isOfTexts P_RX7 false 1 (naL na_X7_isOfTexts) (caL (ca_X7_isOfTexts F)) (lkN th_X7_isOfTexts) (lkN sw_X7_isOfTexts) krI kxN (spL [20]) (KL [(20, kd_X7_isOfTexts_20 t20)]) 28 20 [some (.int x0), some (.int x1)] [] M := rfl
theorem ok_X7_isOfTexts_20 {X : cCtx} {D : Nat} {r : Int32 × cM} (G : FX X 2 (eI r) cX7_isOfTexts RX7 1 D) {F : Nat} (hca : ∀ x ∈ (ca_X7_isOfTexts (R' := Int32 × cM) F), 1 ≤ D ∧ ceS X.1 RX7 (D - 1) x.1 x.2) (n : Nat) : ∀ x0 x1 M, f_X7_isOfTexts_20 F n x0 x1 M = some r → WX X 2 (eI r) 20 [some (.int x0), some (.int x1)] [] M := by
  induction n with
  | zero => intro x0 x1 M h; cases h
  | succ n ih =>
    intro x0 x1 M h
    exact seg_ok G P_RX7_ok T_X7_isOfTexts_ok hca (fun _ h => absurd h List.not_mem_nil) sw_X7_isOfTexts_ok krI_ok (kxN_ok (f := eI)) (List.forall_mem_cons.mpr ⟨kf_X7_isOfTexts_20 (ih), fun _ h => absurd h List.not_mem_nil⟩) ((e_X7_isOfTexts_20 F (f_X7_isOfTexts_20 F n) x0 x1 M).symm.trans h)
theorem e_X7_isOfTexts_0 (F : Nat) (t20 : Int32 → Int32 → cM → Option (Int32 × cM)) (x0 : Int32) (M : cM) : b_X7_isOfTexts_0 F t20 x0 M = run T_X7_isOfTexts P_RX7 false 1 (naL na_X7_isOfTexts) (caL (ca_X7_isOfTexts F)) (lkN th_X7_isOfTexts) (lkN sw_X7_isOfTexts) krI kxN (spL [20]) (KL [(20, kd_X7_isOfTexts_20 t20)]) 28 0 [some (.int x0), none] [] M := rfl
theorem ok_X7_isOfTexts_0 {X : cCtx} {D : Nat} {r : Int32 × cM} (G : FX X 2 (eI r) cX7_isOfTexts RX7 1 D) {F : Nat} (hca : ∀ x ∈ (ca_X7_isOfTexts (R' := Int32 × cM) F), 1 ≤ D ∧ ceS X.1 RX7 (D - 1) x.1 x.2) : ∀ x0 M, f_X7_isOfTexts_0 F x0 M = some r → WX X 2 (eI r) 0 [some (.int x0), none] [] M := by
  intro x0 M h
  exact seg_ok G P_RX7_ok T_X7_isOfTexts_ok hca (fun _ h => absurd h List.not_mem_nil) sw_X7_isOfTexts_ok krI_ok (kxN_ok (f := eI)) (List.forall_mem_cons.mpr ⟨kf_X7_isOfTexts_20 (ok_X7_isOfTexts_20 G hca F), fun _ h => absurd h List.not_mem_nil⟩) ((e_X7_isOfTexts_0 F (f_X7_isOfTexts_20 F F) x0 M).symm.trans h)
theorem c_X7_isOfTexts {q : cL} (hst : q.1.stackTraces = false) {D : Nat} (hD : 1 ≤ D) (F : Nat) (a0 : Int32) (M : cM) (r : Int32 × cM) (h : f_X7_isOfTexts F a0 M = some r) : CTx q yX7_isOfTexts (.code yX7_isOfTexts cX7_isOfTexts 2 (some .boolean)) D [.int a0] M (eI r) := by
  exact CTx_of (own := RX7) (rk := 1) hst (by decide +kernel) rfl (rfl) (Nat.le_of_ble_eq_true rfl) (fun X hX G => by subst hX; exact ok_X7_isOfTexts_0 G (ca_X7_isOfTexts_ok hst hD F) a0 M h)
def n_X7_isOfTexts {R' : Type} (f : Int32 → cM → Option (Int32 × cM)) : cFn R' := fun as M κ κx => match as with
  | [.int a0] => (f a0 M).bind fun p => κ (some (.int p.1)) p.2
  | _ => none
theorem w_X7_isOfTexts : ∀ w ∈ [Cond.static yX7_isOfTexts, .initialized yX7_isOfTexts.cls, .code yX7_isOfTexts cX7_isOfTexts 2 (some .boolean)], w ∈ lw_good := List.forall_mem_cons.mpr ⟨lw_good_of (tb_ok 416 (by decide +kernel)) rfl, List.forall_mem_cons.mpr ⟨lw_good_of (tb_ok 12 (by decide +kernel)) rfl, List.forall_mem_cons.mpr ⟨lw_good_of (tb_ok 417 (by decide +kernel)) rfl, fun _ h => absurd h List.not_mem_nil⟩⟩⟩
theorem n_X7_isOfTexts_ok {R' : Type} {q : cL} {own : String} {d k : Nat} {f : Int32 → cM → Option (Int32 × cM)} (hl : Cond.methodLink own k yX7_isOfTexts ∈ lw_good) (hf : ∀ a0 M r, f a0 M = some r → CTx q yX7_isOfTexts (.code yX7_isOfTexts cX7_isOfTexts 2 (some .boolean)) d [.int a0] M (eI r)) : ceS q own d (3 * k) (n_X7_isOfTexts (R' := R') f) := by
  intro as M κ κx r h
  unfold n_X7_isOfTexts at h
  split at h
  · obtain ⟨p, h1, h2⟩ := Option.bind_eq_some_iff.mp h
    exact ⟨eI p, fun _ => h2, fun hne => absurd rfl hne, Or.inl ⟨yX7_isOfTexts, cX7_isOfTexts, 2, (some .boolean), k, 1, rfl, hf _ _ _ h1, List.forall_mem_cons.mpr ⟨hl, w_X7_isOfTexts⟩, ⟨by decide +kernel, by decide +kernel, by decide +kernel⟩, rfl, by decide⟩⟩
  · cases h
-- PatchbayScript$Task.hasExampleOn(I)Z
def T_X9_hasExampleOn : List cRow := [(0, .iconst 0, 1, 0), (1, .istore_n 2, 2, 0), (2, .iload_n 2, 3, 0), (3, .aload_n 0, 4, 0), (4, .getfield 48, 7, 0), (7, .if_icmp .ge 26, 10, 33), (10, .iload_n 2, 11, 0), (11, .iconst 4, 12, 0), (12, .if_icmp .ge 21, 15, 33), (15, .aload_n 0, 16, 0), (16, .getfield 20, 19, 0), (19, .iload_n 2, 20, 0), (20, .iaload, 21, 0), (21, .iload_n 1, 22, 0), (22, .if_icmp .ne 5, 25, 27), (25, .iconst 1, 26, 0), (26, .ireturn, 27, 0), (27, .iinc 2 1, 30, 0), (30, .goto (-28), 33, 2), (33, .iconst 0, 34, 0), (34, .ireturn, 35, 0)]
theorem T_X9_hasExampleOn_ok : T_X9_hasExampleOn.all (rowB cX9_hasExampleOn) = true := by decide +kernel
def th_X9_hasExampleOn : List (Nat × Nat) := []
def sw_X9_hasExampleOn : List (Nat × (List (Int32 × Nat) × Nat)) := []
theorem sw_X9_hasExampleOn_ok : ∀ q ∈ sw_X9_hasExampleOn, swS cX9_hasExampleOn q := fun _ h => absurd h List.not_mem_nil
def na_X9_hasExampleOn : List (Nat × Nat) := []
def ca_X9_hasExampleOn {R' : Type} (F : Nat) : List (Nat × cFn R') := []
theorem ca_X9_hasExampleOn_ok {R' : Type} {q : cL} (hst : q.1.stackTraces = false) {D : Nat} (hD : 0 ≤ D) (F : Nat) : ∀ x ∈ (ca_X9_hasExampleOn (R' := R') F), 1 ≤ D ∧ ceS q RX9 (D - 1) x.1 x.2 := fun _ h => absurd h List.not_mem_nil
def kd_X9_hasExampleOn_2 (g : Nat → Int32 → Int32 → cM → Option (Int32 × cM)) : cKf (Int32 × cM) := fun vs st M => (lR vs 0).bind fun x0 => (lI vs 1).bind fun x1 => (lI vs 2).bind fun x2 => match st with
  | [] => g x0 x1 x2 M
  | _ => none
theorem kf_X9_hasExampleOn_2 {X : cCtx} {o : cO} {r : Int32 × cM} {g : Nat → Int32 → Int32 → cM → Option (Int32 × cM)} (hg : ∀ x0 x1 x2 M, g x0 x1 x2 M = some r → WX X 3 o 2 [some (.ref x0), some (.int x1), some (.int x2)] [] M) : ∀ vs st M, kd_X9_hasExampleOn_2 g vs st M = some r → WX X 3 o 2 vs st M := by
  intro vs st M h
  unfold kd_X9_hasExampleOn_2 at h
  obtain ⟨x0, h0, h⟩ := Option.bind_eq_some_iff.mp h
  obtain ⟨x1, h1, h⟩ := Option.bind_eq_some_iff.mp h
  obtain ⟨x2, h2, h⟩ := Option.bind_eq_some_iff.mp h
  split at h
  · exact WX_weak (hg _ _ _ _ h) rfl ⟨lR_of h0, lI_of h1, lI_of h2, trivial⟩
  · cases h
theorem e_X9_hasExampleOn_2 (F : Nat) (t2 : Nat → Int32 → Int32 → cM → Option (Int32 × cM)) (x0 : Nat) (x1 : Int32) (x2 : Int32) (M : cM) : b_X9_hasExampleOn_2 F t2 x0 x1 x2 M = run T_X9_hasExampleOn P_RX9 false 1 (naL na_X9_hasExampleOn) (caL (ca_X9_hasExampleOn F)) (lkN th_X9_hasExampleOn) (lkN sw_X9_hasExampleOn) krI kxN (spL [2]) (KL [(2, kd_X9_hasExampleOn_2 t2)]) 24 2 [some (.ref x0), some (.int x1), some (.int x2)] [] M := rfl
theorem ok_X9_hasExampleOn_2 {X : cCtx} {D : Nat} {r : Int32 × cM} (G : FX X 3 (eI r) cX9_hasExampleOn RX9 1 D) {F : Nat} (hca : ∀ x ∈ (ca_X9_hasExampleOn (R' := Int32 × cM) F), 1 ≤ D ∧ ceS X.1 RX9 (D - 1) x.1 x.2) (n : Nat) : ∀ x0 x1 x2 M, f_X9_hasExampleOn_2 F n x0 x1 x2 M = some r → WX X 3 (eI r) 2 [some (.ref x0), some (.int x1), some (.int x2)] [] M := by
  induction n with
  | zero => intro x0 x1 x2 M h; cases h
  | succ n ih =>
    intro x0 x1 x2 M h
    exact seg_ok G P_RX9_ok T_X9_hasExampleOn_ok hca (fun _ h => absurd h List.not_mem_nil) sw_X9_hasExampleOn_ok krI_ok (kxN_ok (f := eI)) (List.forall_mem_cons.mpr ⟨kf_X9_hasExampleOn_2 (ih), fun _ h => absurd h List.not_mem_nil⟩) ((e_X9_hasExampleOn_2 F (f_X9_hasExampleOn_2 F n) x0 x1 x2 M).symm.trans h)
theorem e_X9_hasExampleOn_0 (F : Nat) (t2 : Nat → Int32 → Int32 → cM → Option (Int32 × cM)) (x0 : Nat) (x1 : Int32) (M : cM) : b_X9_hasExampleOn_0 F t2 x0 x1 M = run T_X9_hasExampleOn P_RX9 false 1 (naL na_X9_hasExampleOn) (caL (ca_X9_hasExampleOn F)) (lkN th_X9_hasExampleOn) (lkN sw_X9_hasExampleOn) krI kxN (spL [2]) (KL [(2, kd_X9_hasExampleOn_2 t2)]) 24 0 [some (.ref x0), some (.int x1), none] [] M := rfl
theorem ok_X9_hasExampleOn_0 {X : cCtx} {D : Nat} {r : Int32 × cM} (G : FX X 3 (eI r) cX9_hasExampleOn RX9 1 D) {F : Nat} (hca : ∀ x ∈ (ca_X9_hasExampleOn (R' := Int32 × cM) F), 1 ≤ D ∧ ceS X.1 RX9 (D - 1) x.1 x.2) : ∀ x0 x1 M, f_X9_hasExampleOn_0 F x0 x1 M = some r → WX X 3 (eI r) 0 [some (.ref x0), some (.int x1), none] [] M := by
  intro x0 x1 M h
  exact seg_ok G P_RX9_ok T_X9_hasExampleOn_ok hca (fun _ h => absurd h List.not_mem_nil) sw_X9_hasExampleOn_ok krI_ok (kxN_ok (f := eI)) (List.forall_mem_cons.mpr ⟨kf_X9_hasExampleOn_2 (ok_X9_hasExampleOn_2 G hca F), fun _ h => absurd h List.not_mem_nil⟩) ((e_X9_hasExampleOn_0 F (f_X9_hasExampleOn_2 F F) x0 x1 M).symm.trans h)
theorem c_X9_hasExampleOn {q : cL} (hst : q.1.stackTraces = false) {D : Nat} (hD : 0 ≤ D) (F : Nat) (a0 : Nat) (a1 : Int32) (M : cM) (r : Int32 × cM) (h : f_X9_hasExampleOn F a0 a1 M = some r) : CTx q yX9_hasExampleOn (.code yX9_hasExampleOn cX9_hasExampleOn 3 (some .boolean)) D [.ref a0, .int a1] M (eI r) ∧ ∃ fs, M[a0]? = some (.inr (7, fs)) := by
  unfold f_X9_hasExampleOn at h
  split at h
  · next hi => exact ⟨CTx_of (own := RX9) (rk := 1) hst (by decide +kernel) rfl (rfl) (Nat.le_of_ble_eq_true rfl) (fun X hX G => by subst hX; exact ok_X9_hasExampleOn_0 G (ca_X9_hasExampleOn_ok hst hD F) a0 a1 M h), isC_of hi⟩
  · cases h
def n_X9_hasExampleOn {R' : Type} (f : Nat → Int32 → cM → Option (Int32 × cM)) : cFn R' := fun as M κ κx => match as with
  | [.ref a0, .int a1] => (f a0 a1 M).bind fun p => κ (some (.int p.1)) p.2
  | _ => none
theorem w_X9_hasExampleOn : ∀ w ∈ [Cond.instanceMethod yX9_hasExampleOn, .selects yX9_hasExampleOn.cls yX9_hasExampleOn yX9_hasExampleOn, .initialized yX9_hasExampleOn.cls, .code yX9_hasExampleOn cX9_hasExampleOn 3 (some .boolean)], w ∈ lw_good := List.forall_mem_cons.mpr ⟨lw_good_of (tb_ok 551 (by decide +kernel)) rfl, List.forall_mem_cons.mpr ⟨lw_good_of (tb_ok 552 (by decide +kernel)) rfl, List.forall_mem_cons.mpr ⟨lw_good_of (tb_ok 3 (by decide +kernel)) rfl, List.forall_mem_cons.mpr ⟨lw_good_of (tb_ok 553 (by decide +kernel)) rfl, fun _ h => absurd h List.not_mem_nil⟩⟩⟩⟩
theorem n_X9_hasExampleOn_ok {R' : Type} {q : cL} {own : String} {d k : Nat} {f : Nat → Int32 → cM → Option (Int32 × cM)} (hl : Cond.methodLink own k yX9_hasExampleOn ∈ lw_good) (hf : ∀ a0 a1 M r, f a0 a1 M = some r → CTx q yX9_hasExampleOn (.code yX9_hasExampleOn cX9_hasExampleOn 3 (some .boolean)) d [.ref a0, .int a1] M (eI r) ∧ ∃ fs, M[a0]? = some (.inr (7, fs))) : ceS q own d (3 * k + 1) (n_X9_hasExampleOn (R' := R') f) := by
  intro as M κ κx r h
  unfold n_X9_hasExampleOn at h
  split at h
  · obtain ⟨p, h1, h2⟩ := Option.bind_eq_some_iff.mp h
    obtain ⟨hc, fs, ha⟩ := hf _ _ _ _ h1
    exact ⟨eI p, fun _ => h2, fun hne => absurd rfl hne, Or.inr (Or.inl ⟨yX9_hasExampleOn, cX9_hasExampleOn, 3, (some .boolean), k, 1, _, _, 7, TX9, 13, fs, rfl, rfl, hc, ha, rfl, List.forall_mem_cons.mpr ⟨hl, w_X9_hasExampleOn⟩, ⟨rfl, by decide +kernel, by decide +kernel, by decide +kernel⟩, rfl, by decide⟩)⟩
  · cases h
-- PatchbayScript$Task.addExample(LPatchbayScript$Text;LPatchbayScript$Text;I)I
def T_X9_addExample : List cRow := [(0, .aload_n 0, 1, 0), (1, .getfield 48, 4, 0), (4, .iconst 3, 5, 0), (5, .invokestatic 52, 8, 0), (8, .istore 4, 10, 0), (10, .aload_n 0, 11, 0), (11, .getfield 13, 14, 0), (14, .iload 4, 16, 0), (16, .aaload, 17, 0), (17, .aload_n 1, 18, 0), (18, .invokevirtual 58, 21, 0), (21, .aload_n 0, 22, 0), (22, .getfield 17, 25, 0), (25, .iload 4, 27, 0), (27, .aaload, 28, 0), (28, .aload_n 2, 29, 0), (29, .invokevirtual 58, 32, 0), (32, .aload_n 0, 33, 0), (33, .getfield 20, 36, 0), (36, .iload 4, 38, 0), (38, .iload_n 3, 39, 0), (39, .iastore, 40, 0), (40, .aload_n 0, 41, 0), (41, .iload 4, 43, 0), (43, .iconst 1, 44, 0), (44, .iadd, 45, 0), (45, .putfield 48, 48, 0), (48, .aload_n 0, 49, 0), (49, .iconst 0, 50, 0), (50, .putfield 62, 53, 0), (53, .iload 4, 55, 0), (55, .ireturn, 56, 0)]
theorem T_X9_addExample_ok : T_X9_addExample.all (rowB cX9_addExample) = true := by decide +kernel
def th_X9_addExample : List (Nat × Nat) := []
def sw_X9_addExample : List (Nat × (List (Int32 × Nat) × Nat)) := []
theorem sw_X9_addExample_ok : ∀ q ∈ sw_X9_addExample, swS cX9_addExample q := fun _ h => absurd h List.not_mem_nil
def na_X9_addExample : List (Nat × Nat) := [(156, 2), (175, 2)]
def ca_X9_addExample {R' : Type} (F : Nat) : List (Nat × cFn R') := [(156, n_min), (175, n_X10_set (f_X10_set F))]
theorem ca_X9_addExample_ok {R' : Type} {q : cL} (hst : q.1.stackTraces = false) {D : Nat} (hD : 1 ≤ D) (F : Nat) : ∀ x ∈ (ca_X9_addExample (R' := R') F), 1 ≤ D ∧ ceS q RX9 (D - 1) x.1 x.2 := List.forall_mem_cons.mpr ⟨⟨by omega, n_min_ok (k := 52) (lw_good_of (tb_ok 697 (by decide +kernel)) rfl)⟩, List.forall_mem_cons.mpr ⟨⟨by omega, n_X10_set_ok (k := 58) (lw_good_of (tb_ok 700 (by decide +kernel)) rfl) (fun a0 a1 M r h => c_X10_set hst (by omega) F a0 a1 M r h)⟩, fun _ h => absurd h List.not_mem_nil⟩⟩
theorem e_X9_addExample_0 (F : Nat) (x0 : Nat) (x1 : Nat) (x2 : Nat) (x3 : Int32) (M : cM) : b_X9_addExample_0 F x0 x1 x2 x3 M = run T_X9_addExample P_RX9 false 0 (naL na_X9_addExample) (caL (ca_X9_addExample F)) (lkN th_X9_addExample) (lkN sw_X9_addExample) krI kxN (spL []) (KL []) 35 0 [some (.ref x0), some (.ref x1), some (.ref x2), some (.int x3), none] [] M := rfl
theorem ok_X9_addExample_0 {X : cCtx} {D : Nat} {r : Int32 × cM} (G : FX X 5 (eI r) cX9_addExample RX9 0 D) {F : Nat} (hca : ∀ x ∈ (ca_X9_addExample (R' := Int32 × cM) F), 1 ≤ D ∧ ceS X.1 RX9 (D - 1) x.1 x.2) : ∀ x0 x1 x2 x3 M, f_X9_addExample_0 F x0 x1 x2 x3 M = some r → WX X 5 (eI r) 0 [some (.ref x0), some (.ref x1), some (.ref x2), some (.int x3), none] [] M := by
  intro x0 x1 x2 x3 M h
  exact seg_ok G P_RX9_ok T_X9_addExample_ok hca (fun _ h => absurd h List.not_mem_nil) sw_X9_addExample_ok krI_ok (kxN_ok (f := eI)) (fun _ h => absurd h List.not_mem_nil) ((e_X9_addExample_0 F x0 x1 x2 x3 M).symm.trans h)
theorem c_X9_addExample {q : cL} (hst : q.1.stackTraces = false) {D : Nat} (hD : 1 ≤ D) (F : Nat) (a0 : Nat) (a1 : Nat) (a2 : Nat) (a3 : Int32) (M : cM) (r : Int32 × cM) (h : f_X9_addExample F a0 a1 a2 a3 M = some r) : CTx q yX9_addExample (.code yX9_addExample cX9_addExample 5 (some .int)) D [.ref a0, .ref a1, .ref a2, .int a3] M (eI r) ∧ ∃ fs, M[a0]? = some (.inr (7, fs)) := by
  unfold f_X9_addExample at h
  split at h
  · next hi => exact ⟨CTx_of (own := RX9) (rk := 0) hst (by decide +kernel) rfl (rfl) (Nat.le_of_ble_eq_true rfl) (fun X hX G => by subst hX; exact ok_X9_addExample_0 G (ca_X9_addExample_ok hst hD F) a0 a1 a2 a3 M h), isC_of hi⟩
  · cases h
def n_X9_addExample {R' : Type} (f : Nat → Nat → Nat → Int32 → cM → Option (Int32 × cM)) : cFn R' := fun as M κ κx => match as with
  | [.ref a0, .ref a1, .ref a2, .int a3] => (f a0 a1 a2 a3 M).bind fun p => κ (some (.int p.1)) p.2
  | _ => none
theorem w_X9_addExample : ∀ w ∈ [Cond.instanceMethod yX9_addExample, .selects yX9_addExample.cls yX9_addExample yX9_addExample, .initialized yX9_addExample.cls, .code yX9_addExample cX9_addExample 5 (some .int)], w ∈ lw_good := List.forall_mem_cons.mpr ⟨lw_good_of (tb_ok 694 (by decide +kernel)) rfl, List.forall_mem_cons.mpr ⟨lw_good_of (tb_ok 695 (by decide +kernel)) rfl, List.forall_mem_cons.mpr ⟨lw_good_of (tb_ok 3 (by decide +kernel)) rfl, List.forall_mem_cons.mpr ⟨lw_good_of (tb_ok 696 (by decide +kernel)) rfl, fun _ h => absurd h List.not_mem_nil⟩⟩⟩⟩
theorem n_X9_addExample_ok {R' : Type} {q : cL} {own : String} {d k : Nat} {f : Nat → Nat → Nat → Int32 → cM → Option (Int32 × cM)} (hl : Cond.methodLink own k yX9_addExample ∈ lw_good) (hf : ∀ a0 a1 a2 a3 M r, f a0 a1 a2 a3 M = some r → CTx q yX9_addExample (.code yX9_addExample cX9_addExample 5 (some .int)) d [.ref a0, .ref a1, .ref a2, .int a3] M (eI r) ∧ ∃ fs, M[a0]? = some (.inr (7, fs))) : ceS q own d (3 * k + 1) (n_X9_addExample (R' := R') f) := by
  intro as M κ κx r h
  unfold n_X9_addExample at h
  split at h
  · obtain ⟨p, h1, h2⟩ := Option.bind_eq_some_iff.mp h
    obtain ⟨hc, fs, ha⟩ := hf _ _ _ _ _ _ h1
    exact ⟨eI p, fun _ => h2, fun hne => absurd rfl hne, Or.inr (Or.inl ⟨yX9_addExample, cX9_addExample, 5, (some .int), k, 3, _, _, 7, TX9, 13, fs, rfl, rfl, hc, ha, rfl, List.forall_mem_cons.mpr ⟨hl, w_X9_addExample⟩, ⟨rfl, by decide +kernel, by decide +kernel, by decide +kernel⟩, rfl, by decide⟩)⟩
  · cases h
-- PatchbayScript$Task.addRefusal(LPatchbayScript$Text;LPatchbayScript$Text;)V
def T_X9_addRefusal : List cRow := [(0, .aload_n 0, 1, 0), (1, .getfield 66, 4, 0), (4, .iconst 3, 5, 0), (5, .invokestatic 52, 8, 0), (8, .istore_n 3, 9, 0), (9, .aload_n 0, 10, 0), (10, .getfield 24, 13, 0), (13, .iload_n 3, 14, 0), (14, .aaload, 15, 0), (15, .aload_n 1, 16, 0), (16, .invokevirtual 58, 19, 0), (19, .aload_n 0, 20, 0), (20, .getfield 27, 23, 0), (23, .iload_n 3, 24, 0), (24, .aaload, 25, 0), (25, .aload_n 2, 26, 0), (26, .invokevirtual 58, 29, 0), (29, .aload_n 0, 30, 0), (30, .iload_n 3, 31, 0), (31, .iconst 1, 32, 0), (32, .iadd, 33, 0), (33, .putfield 66, 36, 0), (36, .return_, 37, 0)]
theorem T_X9_addRefusal_ok : T_X9_addRefusal.all (rowB cX9_addRefusal) = true := by decide +kernel
def th_X9_addRefusal : List (Nat × Nat) := []
def sw_X9_addRefusal : List (Nat × (List (Int32 × Nat) × Nat)) := []
theorem sw_X9_addRefusal_ok : ∀ q ∈ sw_X9_addRefusal, swS cX9_addRefusal q := fun _ h => absurd h List.not_mem_nil
def na_X9_addRefusal : List (Nat × Nat) := [(156, 2), (175, 2)]
def ca_X9_addRefusal {R' : Type} (F : Nat) : List (Nat × cFn R') := [(156, n_min), (175, n_X10_set (f_X10_set F))]
theorem ca_X9_addRefusal_ok {R' : Type} {q : cL} (hst : q.1.stackTraces = false) {D : Nat} (hD : 1 ≤ D) (F : Nat) : ∀ x ∈ (ca_X9_addRefusal (R' := R') F), 1 ≤ D ∧ ceS q RX9 (D - 1) x.1 x.2 := List.forall_mem_cons.mpr ⟨⟨by omega, n_min_ok (k := 52) (lw_good_of (tb_ok 697 (by decide +kernel)) rfl)⟩, List.forall_mem_cons.mpr ⟨⟨by omega, n_X10_set_ok (k := 58) (lw_good_of (tb_ok 700 (by decide +kernel)) rfl) (fun a0 a1 M r h => c_X10_set hst (by omega) F a0 a1 M r h)⟩, fun _ h => absurd h List.not_mem_nil⟩⟩
theorem e_X9_addRefusal_0 (F : Nat) (x0 : Nat) (x1 : Nat) (x2 : Nat) (M : cM) : b_X9_addRefusal_0 F x0 x1 x2 M = run T_X9_addRefusal P_RX9 false 5 (naL na_X9_addRefusal) (caL (ca_X9_addRefusal F)) (lkN th_X9_addRefusal) (lkN sw_X9_addRefusal) krV kxN (spL []) (KL []) 26 0 [some (.ref x0), some (.ref x1), some (.ref x2), none] [] M := rfl
theorem ok_X9_addRefusal_0 {X : cCtx} {D : Nat} {r : cM} (G : FX X 4 (eV r) cX9_addRefusal RX9 5 D) {F : Nat} (hca : ∀ x ∈ (ca_X9_addRefusal (R' := cM) F), 1 ≤ D ∧ ceS X.1 RX9 (D - 1) x.1 x.2) : ∀ x0 x1 x2 M, f_X9_addRefusal_0 F x0 x1 x2 M = some r → WX X 4 (eV r) 0 [some (.ref x0), some (.ref x1), some (.ref x2), none] [] M := by
  intro x0 x1 x2 M h
  exact seg_ok G P_RX9_ok T_X9_addRefusal_ok hca (fun _ h => absurd h List.not_mem_nil) sw_X9_addRefusal_ok krV_ok (kxN_ok (f := eV)) (fun _ h => absurd h List.not_mem_nil) ((e_X9_addRefusal_0 F x0 x1 x2 M).symm.trans h)
theorem c_X9_addRefusal {q : cL} (hst : q.1.stackTraces = false) {D : Nat} (hD : 1 ≤ D) (F : Nat) (a0 : Nat) (a1 : Nat) (a2 : Nat) (M : cM) (r : cM) (h : f_X9_addRefusal F a0 a1 a2 M = some r) : CTx q yX9_addRefusal (.code yX9_addRefusal cX9_addRefusal 4 none) D [.ref a0, .ref a1, .ref a2] M (eV r) ∧ ∃ fs, M[a0]? = some (.inr (7, fs)) := by
  unfold f_X9_addRefusal at h
  split at h
  · next hi => exact ⟨CTx_of (own := RX9) (rk := 5) hst (by decide +kernel) rfl (rfl) (Nat.le_of_ble_eq_true rfl) (fun X hX G => by subst hX; exact ok_X9_addRefusal_0 G (ca_X9_addRefusal_ok hst hD F) a0 a1 a2 M h), isC_of hi⟩
  · cases h
def n_X9_addRefusal {R' : Type} (f : Nat → Nat → Nat → cM → Option (cM)) : cFn R' := fun as M κ κx => match as with
  | [.ref a0, .ref a1, .ref a2] => (f a0 a1 a2 M).bind fun p => κ none p
  | _ => none
theorem w_X9_addRefusal : ∀ w ∈ [Cond.instanceMethod yX9_addRefusal, .selects yX9_addRefusal.cls yX9_addRefusal yX9_addRefusal, .initialized yX9_addRefusal.cls, .code yX9_addRefusal cX9_addRefusal 4 none], w ∈ lw_good := List.forall_mem_cons.mpr ⟨lw_good_of (tb_ok 714 (by decide +kernel)) rfl, List.forall_mem_cons.mpr ⟨lw_good_of (tb_ok 715 (by decide +kernel)) rfl, List.forall_mem_cons.mpr ⟨lw_good_of (tb_ok 3 (by decide +kernel)) rfl, List.forall_mem_cons.mpr ⟨lw_good_of (tb_ok 716 (by decide +kernel)) rfl, fun _ h => absurd h List.not_mem_nil⟩⟩⟩⟩
theorem n_X9_addRefusal_ok {R' : Type} {q : cL} {own : String} {d k : Nat} {f : Nat → Nat → Nat → cM → Option (cM)} (hl : Cond.methodLink own k yX9_addRefusal ∈ lw_good) (hf : ∀ a0 a1 a2 M r, f a0 a1 a2 M = some r → CTx q yX9_addRefusal (.code yX9_addRefusal cX9_addRefusal 4 none) d [.ref a0, .ref a1, .ref a2] M (eV r) ∧ ∃ fs, M[a0]? = some (.inr (7, fs))) : ceS q own d (3 * k + 1) (n_X9_addRefusal (R' := R') f) := by
  intro as M κ κx r h
  unfold n_X9_addRefusal at h
  split at h
  · obtain ⟨p, h1, h2⟩ := Option.bind_eq_some_iff.mp h
    obtain ⟨hc, fs, ha⟩ := hf _ _ _ _ _ h1
    exact ⟨eV p, fun _ => h2, fun hne => absurd rfl hne, Or.inr (Or.inl ⟨yX9_addRefusal, cX9_addRefusal, 4, none, k, 2, _, _, 7, TX9, 13, fs, rfl, rfl, hc, ha, rfl, List.forall_mem_cons.mpr ⟨hl, w_X9_addRefusal⟩, ⟨rfl, by decide +kernel, by decide +kernel, by decide +kernel⟩, rfl, by decide⟩)⟩
  · cases h
-- PatchbayScript$Task.setPin(II)V
def T_X9_setPin : List cRow := [(0, .iload_n 1, 1, 0), (1, .ifCond .lt 20, 4, 21), (4, .iload_n 1, 5, 0), (5, .iconst 4, 6, 0), (6, .if_icmp .ge 15, 9, 21), (9, .aload_n 0, 10, 0), (10, .getfield 30, 13, 0), (13, .iload_n 1, 14, 0), (14, .iload_n 2, 15, 0), (15, .iastore, 16, 0), (16, .aload_n 0, 17, 0), (17, .iconst 0, 18, 0), (18, .putfield 62, 21, 0), (21, .return_, 22, 0)]
theorem T_X9_setPin_ok : T_X9_setPin.all (rowB cX9_setPin) = true := by decide +kernel
def th_X9_setPin : List (Nat × Nat) := []
def sw_X9_setPin : List (Nat × (List (Int32 × Nat) × Nat)) := []
theorem sw_X9_setPin_ok : ∀ q ∈ sw_X9_setPin, swS cX9_setPin q := fun _ h => absurd h List.not_mem_nil
def na_X9_setPin : List (Nat × Nat) := []
def ca_X9_setPin {R' : Type} (F : Nat) : List (Nat × cFn R') := []
theorem ca_X9_setPin_ok {R' : Type} {q : cL} (hst : q.1.stackTraces = false) {D : Nat} (hD : 0 ≤ D) (F : Nat) : ∀ x ∈ (ca_X9_setPin (R' := R') F), 1 ≤ D ∧ ceS q RX9 (D - 1) x.1 x.2 := fun _ h => absurd h List.not_mem_nil
theorem e_X9_setPin_0 (F : Nat) (x0 : Nat) (x1 : Int32) (x2 : Int32) (M : cM) : b_X9_setPin_0 F x0 x1 x2 M = run T_X9_setPin P_RX9 false 5 (naL na_X9_setPin) (caL (ca_X9_setPin F)) (lkN th_X9_setPin) (lkN sw_X9_setPin) krV kxN (spL []) (KL []) 17 0 [some (.ref x0), some (.int x1), some (.int x2)] [] M := rfl
theorem ok_X9_setPin_0 {X : cCtx} {D : Nat} {r : cM} (G : FX X 3 (eV r) cX9_setPin RX9 5 D) {F : Nat} (hca : ∀ x ∈ (ca_X9_setPin (R' := cM) F), 1 ≤ D ∧ ceS X.1 RX9 (D - 1) x.1 x.2) : ∀ x0 x1 x2 M, f_X9_setPin_0 F x0 x1 x2 M = some r → WX X 3 (eV r) 0 [some (.ref x0), some (.int x1), some (.int x2)] [] M := by
  intro x0 x1 x2 M h
  exact seg_ok G P_RX9_ok T_X9_setPin_ok hca (fun _ h => absurd h List.not_mem_nil) sw_X9_setPin_ok krV_ok (kxN_ok (f := eV)) (fun _ h => absurd h List.not_mem_nil) ((e_X9_setPin_0 F x0 x1 x2 M).symm.trans h)
theorem c_X9_setPin {q : cL} (hst : q.1.stackTraces = false) {D : Nat} (hD : 0 ≤ D) (F : Nat) (a0 : Nat) (a1 : Int32) (a2 : Int32) (M : cM) (r : cM) (h : f_X9_setPin F a0 a1 a2 M = some r) : CTx q yX9_setPin (.code yX9_setPin cX9_setPin 3 none) D [.ref a0, .int a1, .int a2] M (eV r) ∧ ∃ fs, M[a0]? = some (.inr (7, fs)) := by
  unfold f_X9_setPin at h
  split at h
  · next hi => exact ⟨CTx_of (own := RX9) (rk := 5) hst (by decide +kernel) rfl (rfl) (Nat.le_of_ble_eq_true rfl) (fun X hX G => by subst hX; exact ok_X9_setPin_0 G (ca_X9_setPin_ok hst hD F) a0 a1 a2 M h), isC_of hi⟩
  · cases h
def n_X9_setPin {R' : Type} (f : Nat → Int32 → Int32 → cM → Option (cM)) : cFn R' := fun as M κ κx => match as with
  | [.ref a0, .int a1, .int a2] => (f a0 a1 a2 M).bind fun p => κ none p
  | _ => none
theorem w_X9_setPin : ∀ w ∈ [Cond.instanceMethod yX9_setPin, .selects yX9_setPin.cls yX9_setPin yX9_setPin, .initialized yX9_setPin.cls, .code yX9_setPin cX9_setPin 3 none], w ∈ lw_good := List.forall_mem_cons.mpr ⟨lw_good_of (tb_ok 751 (by decide +kernel)) rfl, List.forall_mem_cons.mpr ⟨lw_good_of (tb_ok 752 (by decide +kernel)) rfl, List.forall_mem_cons.mpr ⟨lw_good_of (tb_ok 3 (by decide +kernel)) rfl, List.forall_mem_cons.mpr ⟨lw_good_of (tb_ok 753 (by decide +kernel)) rfl, fun _ h => absurd h List.not_mem_nil⟩⟩⟩⟩
theorem n_X9_setPin_ok {R' : Type} {q : cL} {own : String} {d k : Nat} {f : Nat → Int32 → Int32 → cM → Option (cM)} (hl : Cond.methodLink own k yX9_setPin ∈ lw_good) (hf : ∀ a0 a1 a2 M r, f a0 a1 a2 M = some r → CTx q yX9_setPin (.code yX9_setPin cX9_setPin 3 none) d [.ref a0, .int a1, .int a2] M (eV r) ∧ ∃ fs, M[a0]? = some (.inr (7, fs))) : ceS q own d (3 * k + 1) (n_X9_setPin (R' := R') f) := by
  intro as M κ κx r h
  unfold n_X9_setPin at h
  split at h
  · obtain ⟨p, h1, h2⟩ := Option.bind_eq_some_iff.mp h
    obtain ⟨hc, fs, ha⟩ := hf _ _ _ _ _ h1
    exact ⟨eV p, fun _ => h2, fun hne => absurd rfl hne, Or.inr (Or.inl ⟨yX9_setPin, cX9_setPin, 3, none, k, 2, _, _, 7, TX9, 13, fs, rfl, rfl, hc, ha, rfl, List.forall_mem_cons.mpr ⟨hl, w_X9_setPin⟩, ⟨rfl, by decide +kernel, by decide +kernel, by decide +kernel⟩, rfl, by decide⟩)⟩
  · cases h
-- PatchbayScript$Task.pinCount()I
def T_X9_pinCount : List cRow := [(0, .iconst 0, 1, 0), (1, .istore_n 1, 2, 0), (2, .iconst 0, 3, 0), (3, .istore_n 2, 4, 0), (4, .iload_n 2, 5, 0), (5, .iconst 4, 6, 0), (6, .if_icmp .ge 22, 9, 28), (9, .aload_n 0, 10, 0), (10, .getfield 30, 13, 0), (13, .iload_n 2, 14, 0), (14, .iaload, 15, 0), (15, .iconst (-1), 16, 0), (16, .if_icmp .eq 6, 19, 22), (19, .iinc 1 1, 22, 0), (22, .iinc 2 1, 25, 0), (25, .goto (-21), 28, 4), (28, .iload_n 1, 29, 0), (29, .ireturn, 30, 0)]
theorem T_X9_pinCount_ok : T_X9_pinCount.all (rowB cX9_pinCount) = true := by decide +kernel
def th_X9_pinCount : List (Nat × Nat) := []
def sw_X9_pinCount : List (Nat × (List (Int32 × Nat) × Nat)) := []
theorem sw_X9_pinCount_ok : ∀ q ∈ sw_X9_pinCount, swS cX9_pinCount q := fun _ h => absurd h List.not_mem_nil
def na_X9_pinCount : List (Nat × Nat) := []
def ca_X9_pinCount {R' : Type} (F : Nat) : List (Nat × cFn R') := []
theorem ca_X9_pinCount_ok {R' : Type} {q : cL} (hst : q.1.stackTraces = false) {D : Nat} (hD : 0 ≤ D) (F : Nat) : ∀ x ∈ (ca_X9_pinCount (R' := R') F), 1 ≤ D ∧ ceS q RX9 (D - 1) x.1 x.2 := fun _ h => absurd h List.not_mem_nil
def kd_X9_pinCount_4 (g : Nat → Int32 → Int32 → cM → Option (Int32 × cM)) : cKf (Int32 × cM) := fun vs st M => (lR vs 0).bind fun x0 => (lI vs 1).bind fun x1 => (lI vs 2).bind fun x2 => match st with
  | [] => g x0 x1 x2 M
  | _ => none
theorem kf_X9_pinCount_4 {X : cCtx} {o : cO} {r : Int32 × cM} {g : Nat → Int32 → Int32 → cM → Option (Int32 × cM)} (hg : ∀ x0 x1 x2 M, g x0 x1 x2 M = some r → WX X 3 o 4 [some (.ref x0), some (.int x1), some (.int x2)] [] M) : ∀ vs st M, kd_X9_pinCount_4 g vs st M = some r → WX X 3 o 4 vs st M := by
  intro vs st M h
  unfold kd_X9_pinCount_4 at h
  obtain ⟨x0, h0, h⟩ := Option.bind_eq_some_iff.mp h
  obtain ⟨x1, h1, h⟩ := Option.bind_eq_some_iff.mp h
  obtain ⟨x2, h2, h⟩ := Option.bind_eq_some_iff.mp h
  split at h
  · exact WX_weak (hg _ _ _ _ h) rfl ⟨lR_of h0, lI_of h1, lI_of h2, trivial⟩
  · cases h
theorem e_X9_pinCount_4 (F : Nat) (t4 : Nat → Int32 → Int32 → cM → Option (Int32 × cM)) (x0 : Nat) (x1 : Int32) (x2 : Int32) (M : cM) : b_X9_pinCount_4 F t4 x0 x1 x2 M = run T_X9_pinCount P_RX9 false 0 (naL na_X9_pinCount) (caL (ca_X9_pinCount F)) (lkN th_X9_pinCount) (lkN sw_X9_pinCount) krI kxN (spL [4]) (KL [(4, kd_X9_pinCount_4 t4)]) 21 4 [some (.ref x0), some (.int x1), some (.int x2)] [] M := rfl
theorem ok_X9_pinCount_4 {X : cCtx} {D : Nat} {r : Int32 × cM} (G : FX X 3 (eI r) cX9_pinCount RX9 0 D) {F : Nat} (hca : ∀ x ∈ (ca_X9_pinCount (R' := Int32 × cM) F), 1 ≤ D ∧ ceS X.1 RX9 (D - 1) x.1 x.2) (n : Nat) : ∀ x0 x1 x2 M, f_X9_pinCount_4 F n x0 x1 x2 M = some r → WX X 3 (eI r) 4 [some (.ref x0), some (.int x1), some (.int x2)] [] M := by
  induction n with
  | zero => intro x0 x1 x2 M h; cases h
  | succ n ih =>
    intro x0 x1 x2 M h
    exact seg_ok G P_RX9_ok T_X9_pinCount_ok hca (fun _ h => absurd h List.not_mem_nil) sw_X9_pinCount_ok krI_ok (kxN_ok (f := eI)) (List.forall_mem_cons.mpr ⟨kf_X9_pinCount_4 (ih), fun _ h => absurd h List.not_mem_nil⟩) ((e_X9_pinCount_4 F (f_X9_pinCount_4 F n) x0 x1 x2 M).symm.trans h)
theorem e_X9_pinCount_0 (F : Nat) (t4 : Nat → Int32 → Int32 → cM → Option (Int32 × cM)) (x0 : Nat) (M : cM) : b_X9_pinCount_0 F t4 x0 M = run T_X9_pinCount P_RX9 false 0 (naL na_X9_pinCount) (caL (ca_X9_pinCount F)) (lkN th_X9_pinCount) (lkN sw_X9_pinCount) krI kxN (spL [4]) (KL [(4, kd_X9_pinCount_4 t4)]) 21 0 [some (.ref x0), none, none] [] M := rfl
theorem ok_X9_pinCount_0 {X : cCtx} {D : Nat} {r : Int32 × cM} (G : FX X 3 (eI r) cX9_pinCount RX9 0 D) {F : Nat} (hca : ∀ x ∈ (ca_X9_pinCount (R' := Int32 × cM) F), 1 ≤ D ∧ ceS X.1 RX9 (D - 1) x.1 x.2) : ∀ x0 M, f_X9_pinCount_0 F x0 M = some r → WX X 3 (eI r) 0 [some (.ref x0), none, none] [] M := by
  intro x0 M h
  exact seg_ok G P_RX9_ok T_X9_pinCount_ok hca (fun _ h => absurd h List.not_mem_nil) sw_X9_pinCount_ok krI_ok (kxN_ok (f := eI)) (List.forall_mem_cons.mpr ⟨kf_X9_pinCount_4 (ok_X9_pinCount_4 G hca F), fun _ h => absurd h List.not_mem_nil⟩) ((e_X9_pinCount_0 F (f_X9_pinCount_4 F F) x0 M).symm.trans h)
theorem c_X9_pinCount {q : cL} (hst : q.1.stackTraces = false) {D : Nat} (hD : 0 ≤ D) (F : Nat) (a0 : Nat) (M : cM) (r : Int32 × cM) (h : f_X9_pinCount F a0 M = some r) : CTx q yX9_pinCount (.code yX9_pinCount cX9_pinCount 3 (some .int)) D [.ref a0] M (eI r) ∧ ∃ fs, M[a0]? = some (.inr (7, fs)) := by
  unfold f_X9_pinCount at h
  split at h
  · next hi => exact ⟨CTx_of (own := RX9) (rk := 0) hst (by decide +kernel) rfl (rfl) (Nat.le_of_ble_eq_true rfl) (fun X hX G => by subst hX; exact ok_X9_pinCount_0 G (ca_X9_pinCount_ok hst hD F) a0 M h), isC_of hi⟩
  · cases h
def n_X9_pinCount {R' : Type} (f : Nat → cM → Option (Int32 × cM)) : cFn R' := fun as M κ κx => match as with
  | [.ref a0] => (f a0 M).bind fun p => κ (some (.int p.1)) p.2
  | _ => none
theorem w_X9_pinCount : ∀ w ∈ [Cond.instanceMethod yX9_pinCount, .selects yX9_pinCount.cls yX9_pinCount yX9_pinCount, .initialized yX9_pinCount.cls, .code yX9_pinCount cX9_pinCount 3 (some .int)], w ∈ lw_good := List.forall_mem_cons.mpr ⟨lw_good_of (tb_ok 755 (by decide +kernel)) rfl, List.forall_mem_cons.mpr ⟨lw_good_of (tb_ok 756 (by decide +kernel)) rfl, List.forall_mem_cons.mpr ⟨lw_good_of (tb_ok 3 (by decide +kernel)) rfl, List.forall_mem_cons.mpr ⟨lw_good_of (tb_ok 757 (by decide +kernel)) rfl, fun _ h => absurd h List.not_mem_nil⟩⟩⟩⟩
theorem n_X9_pinCount_ok {R' : Type} {q : cL} {own : String} {d k : Nat} {f : Nat → cM → Option (Int32 × cM)} (hl : Cond.methodLink own k yX9_pinCount ∈ lw_good) (hf : ∀ a0 M r, f a0 M = some r → CTx q yX9_pinCount (.code yX9_pinCount cX9_pinCount 3 (some .int)) d [.ref a0] M (eI r) ∧ ∃ fs, M[a0]? = some (.inr (7, fs))) : ceS q own d (3 * k + 1) (n_X9_pinCount (R' := R') f) := by
  intro as M κ κx r h
  unfold n_X9_pinCount at h
  split at h
  · obtain ⟨p, h1, h2⟩ := Option.bind_eq_some_iff.mp h
    obtain ⟨hc, fs, ha⟩ := hf _ _ _ h1
    exact ⟨eI p, fun _ => h2, fun hne => absurd rfl hne, Or.inr (Or.inl ⟨yX9_pinCount, cX9_pinCount, 3, (some .int), k, 0, _, _, 7, TX9, 13, fs, rfl, rfl, hc, ha, rfl, List.forall_mem_cons.mpr ⟨hl, w_X9_pinCount⟩, ⟨rfl, by decide +kernel, by decide +kernel, by decide +kernel⟩, rfl, by decide⟩)⟩
  · cases h
-- PatchbayScript.type(C)I
def T_X11_type : List cRow := [(0, .iload_n 1, 1, 0), (1, .invokestatic 51, 4, 0), (4, .ifCond .ne 13, 7, 17), (7, .new 57, 10, 0), (17, .aload_n 0, 18, 0), (18, .getfield 10, 21, 0), (21, .getfield 64, 24, 0), (24, .bipush 20, 26, 0), (26, .if_icmp .lt 13, 29, 39), (29, .new 68, 32, 0), (39, .aload_n 0, 40, 0), (40, .getfield 10, 43, 0), (43, .iload_n 1, 44, 0), (44, .invokevirtual 73, 47, 0), (47, .pop, 48, 0), (48, .aload_n 0, 49, 0), (49, .getfield 10, 52, 0), (52, .getfield 64, 55, 0), (55, .ireturn, 56, 0)]
theorem T_X11_type_ok : T_X11_type.all (rowB cX11_type) = true := by decide +kernel
def th_X11_type : List (Nat × Nat) := [(7, 1), (29, 2)]
theorem th_X11_type_ok {D : Nat} (hD : 6 ≤ D) : ∀ q ∈ th_X11_type, 6 ≤ D ∧ thS RX11 cX11_type q := List.forall_mem_cons.mpr ⟨⟨hD, ⟨57, 61, 59, "texts have no such sign", thk_RX11_1_61 (by decide), by decide +kernel, by decide +kernel, Or.inl ⟨by decide +kernel, by decide +kernel, by decide +kernel⟩⟩⟩, List.forall_mem_cons.mpr ⟨⟨hD, ⟨68, 72, 70, "the draft is full", thk_RX11_2_72 (by decide), by decide +kernel, by decide +kernel, Or.inl ⟨by decide +kernel, by decide +kernel, by decide +kernel⟩⟩⟩, fun _ h => absurd h List.not_mem_nil⟩⟩
def sw_X11_type : List (Nat × (List (Int32 × Nat) × Nat)) := []
theorem sw_X11_type_ok : ∀ q ∈ sw_X11_type, swS cX11_type q := fun _ h => absurd h List.not_mem_nil
def na_X11_type : List (Nat × Nat) := [(153, 1), (220, 2)]
def ca_X11_type {R' : Type} (F : Nat) : List (Nat × cFn R') := [(153, n_X7_isOfTexts (f_X7_isOfTexts F)), (220, n_X10_add (f_X10_add F))]
theorem ca_X11_type_ok {R' : Type} {q : cL} (hst : q.1.stackTraces = false) {D : Nat} (hD : 6 ≤ D) (F : Nat) : ∀ x ∈ (ca_X11_type (R' := R') F), 1 ≤ D ∧ ceS q RX11 (D - 1) x.1 x.2 := List.forall_mem_cons.mpr ⟨⟨by omega, n_X7_isOfTexts_ok (k := 51) (lw_good_of (tb_ok 415 (by decide +kernel)) rfl) (fun a0 M r h => c_X7_isOfTexts hst (by omega) F a0 M r h)⟩, List.forall_mem_cons.mpr ⟨⟨by omega, n_X10_add_ok (k := 73) (lw_good_of (tb_ok 508 (by decide +kernel)) rfl) (fun a0 a1 M r h => c_X10_add hst (by omega) F a0 a1 M r h)⟩, fun _ h => absurd h List.not_mem_nil⟩⟩
theorem e_X11_type_0 (F : Nat) (x0 : Nat) (x1 : Int32) (M : cM) : b_X11_type_0 F x0 x1 M = run T_X11_type P_RX11 false 0 (naL na_X11_type) (caL (ca_X11_type F)) (lkN th_X11_type) (lkN sw_X11_type) krTI kxTI (spL []) (KL []) 22 0 [some (.ref x0), some (.int x1)] [] M := rfl
theorem ok_X11_type_0 {X : cCtx} {D : Nat} {r : Nat × Int32 × cM} (G : FX X 2 (eTI r) cX11_type RX11 0 D) (h6 : 6 ≤ D) {F : Nat} (hca : ∀ x ∈ (ca_X11_type (R' := Nat × Int32 × cM) F), 1 ≤ D ∧ ceS X.1 RX11 (D - 1) x.1 x.2) : ∀ x0 x1 M, f_X11_type_0 F x0 x1 M = some r → WX X 2 (eTI r) 0 [some (.ref x0), some (.int x1)] [] M := by
  intro x0 x1 M h
  exact seg_ok G P_RX11_ok T_X11_type_ok hca (th_X11_type_ok h6) sw_X11_type_ok krTI_ok kxTI_ok (fun _ h => absurd h List.not_mem_nil) ((e_X11_type_0 F x0 x1 M).symm.trans h)
theorem c_X11_type {q : cL} (hst : q.1.stackTraces = false) {D : Nat} (hD : 6 ≤ D) (F : Nat) (a0 : Nat) (a1 : Int32) (M : cM) (r : Nat × Int32 × cM) (h : f_X11_type F a0 a1 M = some r) : CTx q yX11_type (.code yX11_type cX11_type 2 (some .int)) D [.ref a0, .int a1] M (eTI r) ∧ ∃ fs, M[a0]? = some (.inr (9, fs)) := by
  unfold f_X11_type at h
  split at h
  · next hi => exact ⟨CTx_of (own := RX11) (rk := 0) hst (by decide +kernel) rfl (rfl) (Nat.le_of_ble_eq_true rfl) (fun X hX G => by subst hX; exact ok_X11_type_0 G (by omega) (ca_X11_type_ok hst hD F) a0 a1 M h), isC_of hi⟩
  · cases h
-- PatchbayScript.standingTasks()I
def T_X11_standingTasks : List cRow := [(0, .iconst 0, 1, 0), (1, .istore_n 1, 2, 0), (2, .iconst 0, 3, 0), (3, .istore_n 2, 4, 0), (4, .iload_n 2, 5, 0), (5, .iconst 3, 6, 0), (6, .if_icmp .ge 24, 9, 30), (9, .aload_n 0, 10, 0), (10, .getfield 21, 13, 0), (13, .iload_n 2, 14, 0), (14, .aaload, 15, 0), (15, .getfield 97, 18, 0), (18, .ifCond .eq 6, 21, 24), (21, .iinc 1 1, 24, 0), (24, .iinc 2 1, 27, 0), (27, .goto (-23), 30, 4), (30, .iload_n 1, 31, 0), (31, .ireturn, 32, 0)]
theorem T_X11_standingTasks_ok : T_X11_standingTasks.all (rowB cX11_standingTasks) = true := by decide +kernel
def th_X11_standingTasks : List (Nat × Nat) := []
def sw_X11_standingTasks : List (Nat × (List (Int32 × Nat) × Nat)) := []
theorem sw_X11_standingTasks_ok : ∀ q ∈ sw_X11_standingTasks, swS cX11_standingTasks q := fun _ h => absurd h List.not_mem_nil
def na_X11_standingTasks : List (Nat × Nat) := []
def ca_X11_standingTasks {R' : Type} (F : Nat) : List (Nat × cFn R') := []
theorem ca_X11_standingTasks_ok {R' : Type} {q : cL} (hst : q.1.stackTraces = false) {D : Nat} (hD : 0 ≤ D) (F : Nat) : ∀ x ∈ (ca_X11_standingTasks (R' := R') F), 1 ≤ D ∧ ceS q RX11 (D - 1) x.1 x.2 := fun _ h => absurd h List.not_mem_nil
def kd_X11_standingTasks_4 (g : Nat → Int32 → Int32 → cM → Option (Int32 × cM)) : cKf (Int32 × cM) := fun vs st M => (lR vs 0).bind fun x0 => (lI vs 1).bind fun x1 => (lI vs 2).bind fun x2 => match st with
  | [] => g x0 x1 x2 M
  | _ => none
theorem kf_X11_standingTasks_4 {X : cCtx} {o : cO} {r : Int32 × cM} {g : Nat → Int32 → Int32 → cM → Option (Int32 × cM)} (hg : ∀ x0 x1 x2 M, g x0 x1 x2 M = some r → WX X 3 o 4 [some (.ref x0), some (.int x1), some (.int x2)] [] M) : ∀ vs st M, kd_X11_standingTasks_4 g vs st M = some r → WX X 3 o 4 vs st M := by
  intro vs st M h
  unfold kd_X11_standingTasks_4 at h
  obtain ⟨x0, h0, h⟩ := Option.bind_eq_some_iff.mp h
  obtain ⟨x1, h1, h⟩ := Option.bind_eq_some_iff.mp h
  obtain ⟨x2, h2, h⟩ := Option.bind_eq_some_iff.mp h
  split at h
  · exact WX_weak (hg _ _ _ _ h) rfl ⟨lR_of h0, lI_of h1, lI_of h2, trivial⟩
  · cases h
theorem e_X11_standingTasks_4 (F : Nat) (t4 : Nat → Int32 → Int32 → cM → Option (Int32 × cM)) (x0 : Nat) (x1 : Int32) (x2 : Int32) (M : cM) : b_X11_standingTasks_4 F t4 x0 x1 x2 M = run T_X11_standingTasks P_RX11 false 0 (naL na_X11_standingTasks) (caL (ca_X11_standingTasks F)) (lkN th_X11_standingTasks) (lkN sw_X11_standingTasks) krI kxN (spL [4]) (KL [(4, kd_X11_standingTasks_4 t4)]) 21 4 [some (.ref x0), some (.int x1), some (.int x2)] [] M := rfl
theorem ok_X11_standingTasks_4 {X : cCtx} {D : Nat} {r : Int32 × cM} (G : FX X 3 (eI r) cX11_standingTasks RX11 0 D) {F : Nat} (hca : ∀ x ∈ (ca_X11_standingTasks (R' := Int32 × cM) F), 1 ≤ D ∧ ceS X.1 RX11 (D - 1) x.1 x.2) (n : Nat) : ∀ x0 x1 x2 M, f_X11_standingTasks_4 F n x0 x1 x2 M = some r → WX X 3 (eI r) 4 [some (.ref x0), some (.int x1), some (.int x2)] [] M := by
  induction n with
  | zero => intro x0 x1 x2 M h; cases h
  | succ n ih =>
    intro x0 x1 x2 M h
    exact seg_ok G P_RX11_ok T_X11_standingTasks_ok hca (fun _ h => absurd h List.not_mem_nil) sw_X11_standingTasks_ok krI_ok (kxN_ok (f := eI)) (List.forall_mem_cons.mpr ⟨kf_X11_standingTasks_4 (ih), fun _ h => absurd h List.not_mem_nil⟩) ((e_X11_standingTasks_4 F (f_X11_standingTasks_4 F n) x0 x1 x2 M).symm.trans h)
theorem e_X11_standingTasks_0 (F : Nat) (t4 : Nat → Int32 → Int32 → cM → Option (Int32 × cM)) (x0 : Nat) (M : cM) : b_X11_standingTasks_0 F t4 x0 M = run T_X11_standingTasks P_RX11 false 0 (naL na_X11_standingTasks) (caL (ca_X11_standingTasks F)) (lkN th_X11_standingTasks) (lkN sw_X11_standingTasks) krI kxN (spL [4]) (KL [(4, kd_X11_standingTasks_4 t4)]) 21 0 [some (.ref x0), none, none] [] M := rfl
theorem ok_X11_standingTasks_0 {X : cCtx} {D : Nat} {r : Int32 × cM} (G : FX X 3 (eI r) cX11_standingTasks RX11 0 D) {F : Nat} (hca : ∀ x ∈ (ca_X11_standingTasks (R' := Int32 × cM) F), 1 ≤ D ∧ ceS X.1 RX11 (D - 1) x.1 x.2) : ∀ x0 M, f_X11_standingTasks_0 F x0 M = some r → WX X 3 (eI r) 0 [some (.ref x0), none, none] [] M := by
  intro x0 M h
  exact seg_ok G P_RX11_ok T_X11_standingTasks_ok hca (fun _ h => absurd h List.not_mem_nil) sw_X11_standingTasks_ok krI_ok (kxN_ok (f := eI)) (List.forall_mem_cons.mpr ⟨kf_X11_standingTasks_4 (ok_X11_standingTasks_4 G hca F), fun _ h => absurd h List.not_mem_nil⟩) ((e_X11_standingTasks_0 F (f_X11_standingTasks_4 F F) x0 M).symm.trans h)
theorem c_X11_standingTasks {q : cL} (hst : q.1.stackTraces = false) {D : Nat} (hD : 0 ≤ D) (F : Nat) (a0 : Nat) (M : cM) (r : Int32 × cM) (h : f_X11_standingTasks F a0 M = some r) : CTx q yX11_standingTasks (.code yX11_standingTasks cX11_standingTasks 3 (some .int)) D [.ref a0] M (eI r) ∧ ∃ fs, M[a0]? = some (.inr (9, fs)) := by
  unfold f_X11_standingTasks at h
  split at h
  · next hi => exact ⟨CTx_of (own := RX11) (rk := 0) hst (by decide +kernel) rfl (rfl) (Nat.le_of_ble_eq_true rfl) (fun X hX G => by subst hX; exact ok_X11_standingTasks_0 G (ca_X11_standingTasks_ok hst hD F) a0 M h), isC_of hi⟩
  · cases h
def n_X11_standingTasks {R' : Type} (f : Nat → cM → Option (Int32 × cM)) : cFn R' := fun as M κ κx => match as with
  | [.ref a0] => (f a0 M).bind fun p => κ (some (.int p.1)) p.2
  | _ => none
theorem w_X11_standingTasks : ∀ w ∈ [Cond.instanceMethod yX11_standingTasks, .selects yX11_standingTasks.cls yX11_standingTasks yX11_standingTasks, .initialized yX11_standingTasks.cls, .code yX11_standingTasks cX11_standingTasks 3 (some .int)], w ∈ lw_good := List.forall_mem_cons.mpr ⟨lw_good_of (tb_ok 523 (by decide +kernel)) rfl, List.forall_mem_cons.mpr ⟨lw_good_of (ts_ok 1 (by decide +kernel)) rfl, List.forall_mem_cons.mpr ⟨lw_good_of (tb_ok 1 (by decide +kernel)) rfl, List.forall_mem_cons.mpr ⟨lw_good_of (tb_ok 524 (by decide +kernel)) rfl, fun _ h => absurd h List.not_mem_nil⟩⟩⟩⟩
theorem n_X11_standingTasks_ok {R' : Type} {q : cL} {own : String} {d k : Nat} {f : Nat → cM → Option (Int32 × cM)} (hl : Cond.methodLink own k yX11_standingTasks ∈ lw_good) (hf : ∀ a0 M r, f a0 M = some r → CTx q yX11_standingTasks (.code yX11_standingTasks cX11_standingTasks 3 (some .int)) d [.ref a0] M (eI r) ∧ ∃ fs, M[a0]? = some (.inr (9, fs))) : ceS q own d (3 * k + 1) (n_X11_standingTasks (R' := R') f) := by
  intro as M κ κx r h
  unfold n_X11_standingTasks at h
  split at h
  · obtain ⟨p, h1, h2⟩ := Option.bind_eq_some_iff.mp h
    obtain ⟨hc, fs, ha⟩ := hf _ _ _ h1
    exact ⟨eI p, fun _ => h2, fun hne => absurd rfl hne, Or.inr (Or.inl ⟨yX11_standingTasks, cX11_standingTasks, 3, (some .int), k, 0, _, _, 9, TX11, 10, fs, rfl, rfl, hc, ha, rfl, List.forall_mem_cons.mpr ⟨hl, w_X11_standingTasks⟩, ⟨rfl, by decide +kernel, by decide +kernel, by decide +kernel⟩, rfl, by decide⟩)⟩
  · cases h
-- PatchbayScript.runOn(LPatchbayScript$Task;III)I
def T_X11_runOn : List cRow := [(0, .aload_n 0, 1, 0), (1, .getfield 81, 4, 0), (4, .bipush 30, 6, 0), (6, .if_icmp .lt 5, 9, 11), (9, .iconst 0, 10, 0), (10, .ireturn, 11, 0), (11, .aload_n 0, 12, 0), (12, .getfield 81, 15, 0), (15, .istore 5, 17, 0), (17, .aload_n 0, 18, 0), (18, .dup, 19, 0), (19, .getfield 81, 22, 0), (22, .iconst 1, 23, 0), (23, .iadd, 24, 0), (24, .putfield 81, 27, 0), (27, .aload_n 0, 28, 0), (28, .getfield 35, 31, 0), (31, .iload 5, 33, 0), (33, .aaload, 34, 0), (34, .aload_n 1, 35, 0), (35, .getfield 155, 38, 0), (38, .invokevirtual 290, 41, 0), (41, .aload_n 0, 42, 0), (42, .getfield 40, 45, 0), (45, .iload 5, 47, 0), (47, .iconst 1, 48, 0), (48, .bastore, 49, 0), (49, .iconst 0, 50, 0), (50, .istore 6, 52, 0), (52, .iload_n 2, 53, 0), (53, .istore 7, 55, 0), (55, .iload 7, 57, 0), (57, .iload_n 3, 58, 0), (58, .if_icmp .gt 101, 61, 159), (61, .iload 7, 63, 0), (63, .bipush 8, 65, 0), (65, .if_icmp .ge 94, 68, 159), (68, .aload_n 1, 69, 0), (69, .iload 7, 71, 0), (71, .invokevirtual 137, 74, 0), (74, .ifCond .eq 6, 77, 80), (77, .goto 76, 80, 153), (80, .aload_n 1, 81, 0), (81, .getfield 155, 84, 0), (84, .aload_n 0, 85, 0), (85, .getfield 28, 88, 0), (88, .iload 7, 90, 0), (90, .aaload, 91, 0), (91, .getfield 109, 94, 0), (94, .aload_n 0, 95, 0), (95, .getfield 16, 98, 0), (98, .invokevirtual 159, 101, 0), (101, .ifCond .eq 25, 104, 126), (104, .aload_n 0, 105, 0), (105, .getfield 28, 108, 0), (108, .iload 7, 110, 0), (110, .aaload, 111, 0), (111, .iload 5, 113, 0), (113, .aload_n 0, 114, 0), (114, .getfield 16, 117, 0), (117, .invokevirtual 151, 120, 0), (120, .iinc 6 1, 123, 0), (123, .goto 30, 126, 153), (126, .iload 4, 128, 0), (128, .ifCond .ne 6, 131, 134), (131, .goto 28, 134, 159), (134, .iload 4, 136, 0), (136, .iconst 2, 137, 0), (137, .if_icmp .ne 16, 140, 153), (140, .aload_n 0, 141, 0), (141, .dup, 142, 0), (142, .getfield 272, 145, 0), (145, .iconst 1, 146, 0), (146, .iload 7, 148, 0), (148, .ishl, 149, 0), (149, .ior, 150, 0), (150, .putfield 272, 153, 0), (153, .iinc 7 1, 156, 0), (156, .goto (-101), 159, 55), (159, .iload 6, 161, 0), (161, .ireturn, 162, 0)]
theorem T_X11_runOn_ok : T_X11_runOn.all (rowB cX11_runOn) = true := by decide +kernel
def th_X11_runOn : List (Nat × Nat) := []
def sw_X11_runOn : List (Nat × (List (Int32 × Nat) × Nat)) := []
theorem sw_X11_runOn_ok : ∀ q ∈ sw_X11_runOn, swS cX11_runOn q := fun _ h => absurd h List.not_mem_nil
def na_X11_runOn : List (Nat × Nat) := [(871, 2), (412, 2), (478, 3), (454, 3)]
def ca_X11_runOn {R' : Type} (F : Nat) : List (Nat × cFn R') := [(871, n_X4_set (f_X4_set F)), (412, n_X9_hasExampleOn (f_X9_hasExampleOn F)), (478, n_X4_makes (f_X4_makes F)), (454, n_X5_addStep (f_X5_addStep F))]
theorem ca_X11_runOn_ok {R' : Type} {q : cL} (hst : q.1.stackTraces = false) {D : Nat} (hD : 5 ≤ D) (F : Nat) : ∀ x ∈ (ca_X11_runOn (R' := R') F), 1 ≤ D ∧ ceS q RX11 (D - 1) x.1 x.2 := List.forall_mem_cons.mpr ⟨⟨by omega, n_X4_set_ok (k := 290) (lw_good_of (tb_ok 542 (by decide +kernel)) rfl) (fun a0 a1 M r h => c_X4_set hst (by omega) F a0 a1 M r h)⟩, List.forall_mem_cons.mpr ⟨⟨by omega, n_X9_hasExampleOn_ok (k := 137) (lw_good_of (tb_ok 550 (by decide +kernel)) rfl) (fun a0 a1 M r h => c_X9_hasExampleOn hst (by omega) F a0 a1 M r h)⟩, List.forall_mem_cons.mpr ⟨⟨by omega, n_X4_makes_ok (k := 159) (lw_good_of (tb_ok 554 (by decide +kernel)) rfl) (fun a0 a1 a2 M r h => c_X4_makes hst (by omega) F a0 a1 a2 M r h)⟩, List.forall_mem_cons.mpr ⟨⟨by omega, n_X5_addStep_ok (k := 151) (lw_good_of (tb_ok 628 (by decide +kernel)) rfl) (fun a0 a1 a2 M r h => c_X5_addStep hst (by omega) F a0 a1 a2 M r h)⟩, fun _ h => absurd h List.not_mem_nil⟩⟩⟩⟩
def kd_X11_runOn_55 (g : Nat → Nat → Int32 → Int32 → Int32 → Int32 → Int32 → cM → Option (Int32 × cM)) : cKf (Int32 × cM) := fun vs st M => (lR vs 0).bind fun x0 => (lR vs 1).bind fun x1 => (lI vs 3).bind fun x3 => (lI vs 4).bind fun x4 => (lI vs 5).bind fun x5 => (lI vs 6).bind fun x6 => (lI vs 7).bind fun x7 => match st with
  | [] => g x0 x1 x3 x4 x5 x6 x7 M
  | _ => none
theorem kf_X11_runOn_55 {X : cCtx} {o : cO} {r : Int32 × cM} {g : Nat → Nat → Int32 → Int32 → Int32 → Int32 → Int32 → cM → Option (Int32 × cM)} (hg : ∀ x0 x1 x3 x4 x5 x6 x7 M, g x0 x1 x3 x4 x5 x6 x7 M = some r → WX X 8 o 55 [some (.ref x0), some (.ref x1), none, some (.int x3), some (.int x4), some (.int x5), some (.int x6), some (.int x7)] [] M) : ∀ vs st M, kd_X11_runOn_55 g vs st M = some r → WX X 8 o 55 vs st M := by
  intro vs st M h
  unfold kd_X11_runOn_55 at h
  obtain ⟨x0, h0, h⟩ := Option.bind_eq_some_iff.mp h
  obtain ⟨x1, h1, h⟩ := Option.bind_eq_some_iff.mp h
  obtain ⟨x3, h3, h⟩ := Option.bind_eq_some_iff.mp h
  obtain ⟨x4, h4, h⟩ := Option.bind_eq_some_iff.mp h
  obtain ⟨x5, h5, h⟩ := Option.bind_eq_some_iff.mp h
  obtain ⟨x6, h6, h⟩ := Option.bind_eq_some_iff.mp h
  obtain ⟨x7, h7, h⟩ := Option.bind_eq_some_iff.mp h
  split at h
  · exact WX_weak (hg _ _ _ _ _ _ _ _ h) rfl ⟨lR_of h0, lR_of h1, lI_of h3, lI_of h4, lI_of h5, lI_of h6, lI_of h7, trivial⟩
  · cases h
theorem e_X11_runOn_55 (F : Nat) (t55 : Nat → Nat → Int32 → Int32 → Int32 → Int32 → Int32 → cM → Option (Int32 × cM)) (x0 : Nat) (x1 : Nat) (x3 : Int32) (x4 : Int32) (x5 : Int32) (x6 : Int32) (x7 : Int32) (M : cM) : b_X11_runOn_55 F t55 x0 x1 x3 x4 x5 x6 x7 M = run T_X11_runOn P_RX11 false 0 (naL na_X11_runOn) (caL (ca_X11_runOn F)) (lkN th_X11_runOn) (lkN sw_X11_runOn) krI kxN (spL [55]) (KL [(55, kd_X11_runOn_55 t55)]) 84 55 [some (.ref x0), some (.ref x1), none, some (.int x3), some (.int x4), some (.int x5), some (.int x6), some (.int x7)] [] M := rfl
theorem ok_X11_runOn_55 {X : cCtx} {D : Nat} {r : Int32 × cM} (G : FX X 8 (eI r) cX11_runOn RX11 0 D) {F : Nat} (hca : ∀ x ∈ (ca_X11_runOn (R' := Int32 × cM) F), 1 ≤ D ∧ ceS X.1 RX11 (D - 1) x.1 x.2) (n : Nat) : ∀ x0 x1 x3 x4 x5 x6 x7 M, f_X11_runOn_55 F n x0 x1 x3 x4 x5 x6 x7 M = some r → WX X 8 (eI r) 55 [some (.ref x0), some (.ref x1), none, some (.int x3), some (.int x4), some (.int x5), some (.int x6), some (.int x7)] [] M := by
  induction n with
  | zero => intro x0 x1 x3 x4 x5 x6 x7 M h; cases h
  | succ n ih =>
    intro x0 x1 x3 x4 x5 x6 x7 M h
    exact seg_ok G P_RX11_ok T_X11_runOn_ok hca (fun _ h => absurd h List.not_mem_nil) sw_X11_runOn_ok krI_ok (kxN_ok (f := eI)) (List.forall_mem_cons.mpr ⟨kf_X11_runOn_55 (ih), fun _ h => absurd h List.not_mem_nil⟩) ((e_X11_runOn_55 F (f_X11_runOn_55 F n) x0 x1 x3 x4 x5 x6 x7 M).symm.trans h)
theorem e_X11_runOn_0 (F : Nat) (t55 : Nat → Nat → Int32 → Int32 → Int32 → Int32 → Int32 → cM → Option (Int32 × cM)) (x0 : Nat) (x1 : Nat) (x2 : Int32) (x3 : Int32) (x4 : Int32) (M : cM) : b_X11_runOn_0 F t55 x0 x1 x2 x3 x4 M = run T_X11_runOn P_RX11 false 0 (naL na_X11_runOn) (caL (ca_X11_runOn F)) (lkN th_X11_runOn) (lkN sw_X11_runOn) krI kxN (spL [55]) (KL [(55, kd_X11_runOn_55 t55)]) 84 0 [some (.ref x0), some (.ref x1), some (.int x2), some (.int x3), some (.int x4), none, none, none] [] M := rfl
theorem ok_X11_runOn_0 {X : cCtx} {D : Nat} {r : Int32 × cM} (G : FX X 8 (eI r) cX11_runOn RX11 0 D) {F : Nat} (hca : ∀ x ∈ (ca_X11_runOn (R' := Int32 × cM) F), 1 ≤ D ∧ ceS X.1 RX11 (D - 1) x.1 x.2) : ∀ x0 x1 x2 x3 x4 M, f_X11_runOn_0 F x0 x1 x2 x3 x4 M = some r → WX X 8 (eI r) 0 [some (.ref x0), some (.ref x1), some (.int x2), some (.int x3), some (.int x4), none, none, none] [] M := by
  intro x0 x1 x2 x3 x4 M h
  exact seg_ok G P_RX11_ok T_X11_runOn_ok hca (fun _ h => absurd h List.not_mem_nil) sw_X11_runOn_ok krI_ok (kxN_ok (f := eI)) (List.forall_mem_cons.mpr ⟨kf_X11_runOn_55 (ok_X11_runOn_55 G hca F), fun _ h => absurd h List.not_mem_nil⟩) ((e_X11_runOn_0 F (f_X11_runOn_55 F F) x0 x1 x2 x3 x4 M).symm.trans h)
theorem c_X11_runOn {q : cL} (hst : q.1.stackTraces = false) {D : Nat} (hD : 5 ≤ D) (F : Nat) (a0 : Nat) (a1 : Nat) (a2 : Int32) (a3 : Int32) (a4 : Int32) (M : cM) (r : Int32 × cM) (h : f_X11_runOn F a0 a1 a2 a3 a4 M = some r) : CTx q yX11_runOn (.code yX11_runOn cX11_runOn 8 (some .int)) D [.ref a0, .ref a1, .int a2, .int a3, .int a4] M (eI r) ∧ ∃ fs, M[a0]? = some (.inr (9, fs)) := by
  unfold f_X11_runOn at h
  split at h
  · next hi => exact ⟨CTx_of (own := RX11) (rk := 0) hst (by decide +kernel) rfl (rfl) (Nat.le_of_ble_eq_true rfl) (fun X hX G => by subst hX; exact ok_X11_runOn_0 G (ca_X11_runOn_ok hst hD F) a0 a1 a2 a3 a4 M h), isC_of hi⟩
  · cases h
def n_X11_runOn {R' : Type} (f : Nat → Nat → Int32 → Int32 → Int32 → cM → Option (Int32 × cM)) : cFn R' := fun as M κ κx => match as with
  | [.ref a0, .ref a1, .int a2, .int a3, .int a4] => (f a0 a1 a2 a3 a4 M).bind fun p => κ (some (.int p.1)) p.2
  | _ => none
theorem w_X11_runOn : ∀ w ∈ [Cond.instanceMethod yX11_runOn, .selects yX11_runOn.cls yX11_runOn yX11_runOn, .initialized yX11_runOn.cls, .code yX11_runOn cX11_runOn 8 (some .int)], w ∈ lw_good := List.forall_mem_cons.mpr ⟨lw_good_of (tb_ok 540 (by decide +kernel)) rfl, List.forall_mem_cons.mpr ⟨lw_good_of (ts_ok 2 (by decide +kernel)) rfl, List.forall_mem_cons.mpr ⟨lw_good_of (tb_ok 1 (by decide +kernel)) rfl, List.forall_mem_cons.mpr ⟨lw_good_of (tb_ok 541 (by decide +kernel)) rfl, fun _ h => absurd h List.not_mem_nil⟩⟩⟩⟩
theorem n_X11_runOn_ok {R' : Type} {q : cL} {own : String} {d k : Nat} {f : Nat → Nat → Int32 → Int32 → Int32 → cM → Option (Int32 × cM)} (hl : Cond.methodLink own k yX11_runOn ∈ lw_good) (hf : ∀ a0 a1 a2 a3 a4 M r, f a0 a1 a2 a3 a4 M = some r → CTx q yX11_runOn (.code yX11_runOn cX11_runOn 8 (some .int)) d [.ref a0, .ref a1, .int a2, .int a3, .int a4] M (eI r) ∧ ∃ fs, M[a0]? = some (.inr (9, fs))) : ceS q own d (3 * k + 1) (n_X11_runOn (R' := R') f) := by
  intro as M κ κx r h
  unfold n_X11_runOn at h
  split at h
  · obtain ⟨p, h1, h2⟩ := Option.bind_eq_some_iff.mp h
    obtain ⟨hc, fs, ha⟩ := hf _ _ _ _ _ _ _ h1
    exact ⟨eI p, fun _ => h2, fun hne => absurd rfl hne, Or.inr (Or.inl ⟨yX11_runOn, cX11_runOn, 8, (some .int), k, 4, _, _, 9, TX11, 10, fs, rfl, rfl, hc, ha, rfl, List.forall_mem_cons.mpr ⟨hl, w_X11_runOn⟩, ⟨rfl, by decide +kernel, by decide +kernel, by decide +kernel⟩, rfl, by decide⟩)⟩
  · cases h
-- PatchbayScript.line()I
def T_X11_line : List cRow := [(0, .aload_n 0, 1, 0), (1, .getfield 76, 4, 0), (4, .bipush 8, 6, 0), (6, .if_icmp .lt 13, 9, 19), (9, .new 68, 12, 0), (19, .aload_n 0, 20, 0), (20, .getfield 81, 23, 0), (23, .aload_n 0, 24, 0), (24, .invokevirtual 84, 27, 0), (27, .iadd, 28, 0), (28, .bipush 30, 30, 0), (30, .if_icmp .le 13, 33, 43), (33, .new 68, 36, 0), (43, .aload_n 0, 44, 0), (44, .getfield 76, 47, 0), (47, .istore_n 1, 48, 0), (48, .aload_n 0, 49, 0), (49, .dup, 50, 0), (50, .getfield 76, 53, 0), (53, .iconst 1, 54, 0), (54, .iadd, 55, 0), (55, .putfield 76, 58, 0), (58, .aload_n 0, 59, 0), (59, .getfield 28, 62, 0), (62, .iload_n 1, 63, 0), (63, .aaload, 64, 0), (64, .aload_n 0, 65, 0), (65, .getfield 10, 68, 0), (68, .invokevirtual 90, 71, 0), (71, .aload_n 0, 72, 0), (72, .getfield 10, 75, 0), (75, .invokevirtual 94, 78, 0), (78, .iconst 0, 79, 0), (79, .istore_n 2, 80, 0), (80, .iload_n 2, 81, 0), (81, .iconst 3, 82, 0), (82, .if_icmp .ge 35, 85, 117), (85, .aload_n 0, 86, 0), (86, .getfield 21, 89, 0), (89, .iload_n 2, 90, 0), (90, .aaload, 91, 0), (91, .getfield 97, 94, 0), (94, .ifCond .eq 17, 97, 111), (97, .aload_n 0, 98, 0), (98, .aload_n 0, 99, 0), (99, .getfield 21, 102, 0), (102, .iload_n 2, 103, 0), (103, .aaload, 104, 0), (104, .iload_n 1, 105, 0), (105, .iload_n 1, 106, 0), (106, .iconst 1, 107, 0), (107, .invokevirtual 101, 110, 0), (110, .pop, 111, 0), (111, .iinc 2 1, 114, 0), (114, .goto (-34), 117, 80), (117, .iload_n 1, 118, 0), (118, .ireturn, 119, 0)]
theorem T_X11_line_ok : T_X11_line.all (rowB cX11_line) = true := by decide +kernel
def th_X11_line : List (Nat × Nat) := [(9, 2), (33, 2)]
theorem th_X11_line_ok {D : Nat} (hD : 6 ≤ D) : ∀ q ∈ th_X11_line, 6 ≤ D ∧ thS RX11 cX11_line q := List.forall_mem_cons.mpr ⟨⟨hD, ⟨68, 72, 79, "there are as many lines as there may be", thk_RX11_2_72 (by decide), by decide +kernel, by decide +kernel, Or.inl ⟨by decide +kernel, by decide +kernel, by decide +kernel⟩⟩⟩, List.forall_mem_cons.mpr ⟨⟨hD, ⟨68, 72, 88, "there would be too many runs", thk_RX11_2_72 (by decide), by decide +kernel, by decide +kernel, Or.inl ⟨by decide +kernel, by decide +kernel, by decide +kernel⟩⟩⟩, fun _ h => absurd h List.not_mem_nil⟩⟩
def sw_X11_line : List (Nat × (List (Int32 × Nat) × Nat)) := []
theorem sw_X11_line_ok : ∀ q ∈ sw_X11_line, swS cX11_line q := fun _ h => absurd h List.not_mem_nil
def na_X11_line : List (Nat × Nat) := [(253, 1), (271, 2), (283, 1), (304, 5)]
def ca_X11_line {R' : Type} (F : Nat) : List (Nat × cFn R') := [(253, n_X11_standingTasks (f_X11_standingTasks F)), (271, n_X5_begin (f_X5_begin F)), (283, n_X10_clear (f_X10_clear F)), (304, n_X11_runOn (f_X11_runOn F))]
theorem ca_X11_line_ok {R' : Type} {q : cL} (hst : q.1.stackTraces = false) {D : Nat} (hD : 6 ≤ D) (F : Nat) : ∀ x ∈ (ca_X11_line (R' := R') F), 1 ≤ D ∧ ceS q RX11 (D - 1) x.1 x.2 := List.forall_mem_cons.mpr ⟨⟨by omega, n_X11_standingTasks_ok (k := 84) (lw_good_of (tb_ok 521 (by decide +kernel)) rfl) (fun a0 M r h => c_X11_standingTasks hst (by omega) F a0 M r h)⟩, List.forall_mem_cons.mpr ⟨⟨by omega, n_X5_begin_ok (k := 90) (lw_good_of (tb_ok 526 (by decide +kernel)) rfl) (fun a0 a1 M r h => c_X5_begin hst (by omega) F a0 a1 M r h)⟩, List.forall_mem_cons.mpr ⟨⟨by omega, n_X10_clear_ok (k := 94) (lw_good_of (tb_ok 534 (by decide +kernel)) rfl) (fun a0 M r h => c_X10_clear hst (by omega) F a0 M r h)⟩, List.forall_mem_cons.mpr ⟨⟨by omega, n_X11_runOn_ok (k := 101) (lw_good_of (tb_ok 538 (by decide +kernel)) rfl) (fun a0 a1 a2 a3 a4 M r h => c_X11_runOn hst (by omega) F a0 a1 a2 a3 a4 M r h)⟩, fun _ h => absurd h List.not_mem_nil⟩⟩⟩⟩
def kd_X11_line_80 (g : Nat → Int32 → Int32 → cM → Option (Nat × Int32 × cM)) : cKf (Nat × Int32 × cM) := fun vs st M => (lR vs 0).bind fun x0 => (lI vs 1).bind fun x1 => (lI vs 2).bind fun x2 => match st with
  | [] => g x0 x1 x2 M
  | _ => none
theorem kf_X11_line_80 {X : cCtx} {o : cO} {r : Nat × Int32 × cM} {g : Nat → Int32 → Int32 → cM → Option (Nat × Int32 × cM)} (hg : ∀ x0 x1 x2 M, g x0 x1 x2 M = some r → WX X 3 o 80 [some (.ref x0), some (.int x1), some (.int x2)] [] M) : ∀ vs st M, kd_X11_line_80 g vs st M = some r → WX X 3 o 80 vs st M := by
  intro vs st M h
  unfold kd_X11_line_80 at h
  obtain ⟨x0, h0, h⟩ := Option.bind_eq_some_iff.mp h
  obtain ⟨x1, h1, h⟩ := Option.bind_eq_some_iff.mp h
  obtain ⟨x2, h2, h⟩ := Option.bind_eq_some_iff.mp h
  split at h
  · exact WX_weak (hg _ _ _ _ h) rfl ⟨lR_of h0, lI_of h1, lI_of h2, trivial⟩
  · cases h
theorem e_X11_line_80 (F : Nat) (t80 : Nat → Int32 → Int32 → cM → Option (Nat × Int32 × cM)) (x0 : Nat) (x1 : Int32) (x2 : Int32) (M : cM) : b_X11_line_80 F t80 x0 x1 x2 M = run T_X11_line P_RX11 false 0 (naL na_X11_line) (caL (ca_X11_line F)) (lkN th_X11_line) (lkN sw_X11_line) krTI kxTI (spL [80]) (KL [(80, kd_X11_line_80 t80)]) 60 80 [some (.ref x0), some (.int x1), some (.int x2)] [] M := rfl
theorem ok_X11_line_80 {X : cCtx} {D : Nat} {r : Nat × Int32 × cM} (G : FX X 3 (eTI r) cX11_line RX11 0 D) (h6 : 6 ≤ D) {F : Nat} (hca : ∀ x ∈ (ca_X11_line (R' := Nat × Int32 × cM) F), 1 ≤ D ∧ ceS X.1 RX11 (D - 1) x.1 x.2) (n : Nat) : ∀ x0 x1 x2 M, f_X11_line_80 F n x0 x1 x2 M = some r → WX X 3 (eTI r) 80 [some (.ref x0), some (.int x1), some (.int x2)] [] M := by
  induction n with
  | zero => intro x0 x1 x2 M h; cases h
  | succ n ih =>
    intro x0 x1 x2 M h
    exact seg_ok G P_RX11_ok T_X11_line_ok hca (th_X11_line_ok h6) sw_X11_line_ok krTI_ok kxTI_ok (List.forall_mem_cons.mpr ⟨kf_X11_line_80 (ih), fun _ h => absurd h List.not_mem_nil⟩) ((e_X11_line_80 F (f_X11_line_80 F n) x0 x1 x2 M).symm.trans h)
theorem e_X11_line_0 (F : Nat) (t80 : Nat → Int32 → Int32 → cM → Option (Nat × Int32 × cM)) (x0 : Nat) (M : cM) : b_X11_line_0 F t80 x0 M = run T_X11_line P_RX11 false 0 (naL na_X11_line) (caL (ca_X11_line F)) (lkN th_X11_line) (lkN sw_X11_line) krTI kxTI (spL [80]) (KL [(80, kd_X11_line_80 t80)]) 60 0 [some (.ref x0), none, none] [] M := rfl
theorem ok_X11_line_0 {X : cCtx} {D : Nat} {r : Nat × Int32 × cM} (G : FX X 3 (eTI r) cX11_line RX11 0 D) (h6 : 6 ≤ D) {F : Nat} (hca : ∀ x ∈ (ca_X11_line (R' := Nat × Int32 × cM) F), 1 ≤ D ∧ ceS X.1 RX11 (D - 1) x.1 x.2) : ∀ x0 M, f_X11_line_0 F x0 M = some r → WX X 3 (eTI r) 0 [some (.ref x0), none, none] [] M := by
  intro x0 M h
  exact seg_ok G P_RX11_ok T_X11_line_ok hca (th_X11_line_ok h6) sw_X11_line_ok krTI_ok kxTI_ok (List.forall_mem_cons.mpr ⟨kf_X11_line_80 (ok_X11_line_80 G h6 hca F), fun _ h => absurd h List.not_mem_nil⟩) ((e_X11_line_0 F (f_X11_line_80 F F) x0 M).symm.trans h)
theorem c_X11_line {q : cL} (hst : q.1.stackTraces = false) {D : Nat} (hD : 6 ≤ D) (F : Nat) (a0 : Nat) (M : cM) (r : Nat × Int32 × cM) (h : f_X11_line F a0 M = some r) : CTx q yX11_line (.code yX11_line cX11_line 3 (some .int)) D [.ref a0] M (eTI r) ∧ ∃ fs, M[a0]? = some (.inr (9, fs)) := by
  unfold f_X11_line at h
  split at h
  · next hi => exact ⟨CTx_of (own := RX11) (rk := 0) hst (by decide +kernel) rfl (rfl) (Nat.le_of_ble_eq_true rfl) (fun X hX G => by subst hX; exact ok_X11_line_0 G (by omega) (ca_X11_line_ok hst hD F) a0 M h), isC_of hi⟩
  · cases h
-- PatchbayScript.needLine(I)V
def T_X11_needLine : List cRow := [(0, .iload_n 1, 1, 0), (1, .ifCond .lt 17, 4, 18), (4, .iload_n 1, 5, 0), (5, .aload_n 0, 6, 0), (6, .getfield 76, 9, 0), (9, .if_icmp .ge 9, 12, 18), (12, .iload_n 1, 13, 0), (13, .bipush 8, 15, 0), (15, .if_icmp .lt 14, 18, 29), (18, .new 112, 21, 0), (29, .return_, 30, 0)]
theorem T_X11_needLine_ok : T_X11_needLine.all (rowB cX11_needLine) = true := by decide +kernel
def th_X11_needLine : List (Nat × Nat) := [(18, 3)]
theorem th_X11_needLine_ok {D : Nat} (hD : 6 ≤ D) : ∀ q ∈ th_X11_needLine, 6 ≤ D ∧ thS RX11 cX11_needLine q := List.forall_mem_cons.mpr ⟨⟨hD, ⟨112, 116, 277, "there is no such line", thk_RX11_3_116 (by decide), by decide +kernel, by decide +kernel, Or.inr ⟨by decide +kernel, by decide +kernel, by decide +kernel⟩⟩⟩, fun _ h => absurd h List.not_mem_nil⟩
def sw_X11_needLine : List (Nat × (List (Int32 × Nat) × Nat)) := []
theorem sw_X11_needLine_ok : ∀ q ∈ sw_X11_needLine, swS cX11_needLine q := fun _ h => absurd h List.not_mem_nil
def na_X11_needLine : List (Nat × Nat) := []
def ca_X11_needLine {R' : Type} (F : Nat) : List (Nat × cFn R') := []
theorem ca_X11_needLine_ok {R' : Type} {q : cL} (hst : q.1.stackTraces = false) {D : Nat} (hD : 6 ≤ D) (F : Nat) : ∀ x ∈ (ca_X11_needLine (R' := R') F), 1 ≤ D ∧ ceS q RX11 (D - 1) x.1 x.2 := fun _ h => absurd h List.not_mem_nil
theorem e_X11_needLine_0 (F : Nat) (x0 : Nat) (x1 : Int32) (M : cM) : b_X11_needLine_0 F x0 x1 M = run T_X11_needLine P_RX11 false 5 (naL na_X11_needLine) (caL (ca_X11_needLine F)) (lkN th_X11_needLine) (lkN sw_X11_needLine) krTV kxTV (spL []) (KL []) 14 0 [some (.ref x0), some (.int x1)] [] M := rfl
theorem ok_X11_needLine_0 {X : cCtx} {D : Nat} {r : Nat × cM} (G : FX X 2 (eTV r) cX11_needLine RX11 5 D) (h6 : 6 ≤ D) {F : Nat} (hca : ∀ x ∈ (ca_X11_needLine (R' := Nat × cM) F), 1 ≤ D ∧ ceS X.1 RX11 (D - 1) x.1 x.2) : ∀ x0 x1 M, f_X11_needLine_0 F x0 x1 M = some r → WX X 2 (eTV r) 0 [some (.ref x0), some (.int x1)] [] M := by
  intro x0 x1 M h
  exact seg_ok G P_RX11_ok T_X11_needLine_ok hca (th_X11_needLine_ok h6) sw_X11_needLine_ok krTV_ok kxTV_ok (fun _ h => absurd h List.not_mem_nil) ((e_X11_needLine_0 F x0 x1 M).symm.trans h)
theorem c_X11_needLine {q : cL} (hst : q.1.stackTraces = false) {D : Nat} (hD : 6 ≤ D) (F : Nat) (a0 : Nat) (a1 : Int32) (M : cM) (r : Nat × cM) (h : f_X11_needLine F a0 a1 M = some r) : CTx q yX11_needLine (.code yX11_needLine cX11_needLine 2 none) D [.ref a0, .int a1] M (eTV r) ∧ ∃ fs, M[a0]? = some (.inr (9, fs)) := by
  unfold f_X11_needLine at h
  split at h
  · next hi => exact ⟨CTx_of (own := RX11) (rk := 5) hst (by decide +kernel) rfl (rfl) (Nat.le_of_ble_eq_true rfl) (fun X hX G => by subst hX; exact ok_X11_needLine_0 G (by omega) (ca_X11_needLine_ok hst hD F) a0 a1 M h), isC_of hi⟩
  · cases h
def n_X11_needLine {R' : Type} (f : Nat → Int32 → cM → Option (Nat × cM)) : cFn R' := fun as M κ κx => match as with
  | [.ref a0, .int a1] => (f a0 a1 M).bind fun p => if p.1 = 0 then κ none p.2 else κx p.1 p.2
  | _ => none
theorem w_X11_needLine : ∀ w ∈ [Cond.instanceMethod yX11_needLine, .selects yX11_needLine.cls yX11_needLine yX11_needLine, .initialized yX11_needLine.cls, .code yX11_needLine cX11_needLine 2 none], w ∈ lw_good := List.forall_mem_cons.mpr ⟨lw_good_of (tb_ok 642 (by decide +kernel)) rfl, List.forall_mem_cons.mpr ⟨lw_good_of (ts_ok 3 (by decide +kernel)) rfl, List.forall_mem_cons.mpr ⟨lw_good_of (tb_ok 1 (by decide +kernel)) rfl, List.forall_mem_cons.mpr ⟨lw_good_of (tb_ok 643 (by decide +kernel)) rfl, fun _ h => absurd h List.not_mem_nil⟩⟩⟩⟩
theorem n_X11_needLine_ok {R' : Type} {q : cL} {own : String} {d k : Nat} {f : Nat → Int32 → cM → Option (Nat × cM)} (hl : Cond.methodLink own k yX11_needLine ∈ lw_good) (hf : ∀ a0 a1 M r, f a0 a1 M = some r → CTx q yX11_needLine (.code yX11_needLine cX11_needLine 2 none) d [.ref a0, .int a1] M (eTV r) ∧ ∃ fs, M[a0]? = some (.inr (9, fs))) : ceS q own d (3 * k + 1) (n_X11_needLine (R' := R') f) := by
  intro as M κ κx r h
  unfold n_X11_needLine at h
  split at h
  · obtain ⟨p, h1, h2⟩ := Option.bind_eq_some_iff.mp h
    obtain ⟨hc, fs, ha⟩ := hf _ _ _ _ h1
    exact ⟨eTV p, fun (h0 : p.1 = 0) => by rw [if_pos h0] at h2; exact h2, fun (h0 : p.1 ≠ 0) => by rw [if_neg h0] at h2; exact h2, Or.inr (Or.inl ⟨yX11_needLine, cX11_needLine, 2, none, k, 1, _, _, 9, TX11, 10, fs, rfl, rfl, hc, ha, rfl, List.forall_mem_cons.mpr ⟨hl, w_X11_needLine⟩, ⟨rfl, by decide +kernel, by decide +kernel, by decide +kernel⟩, rfl, by decide⟩)⟩
  · cases h
-- PatchbayScript.length(I)I
def T_X11_length : List cRow := [(0, .aload_n 0, 1, 0), (1, .iload_n 1, 2, 0), (2, .invokevirtual 105, 5, 0), (5, .aload_n 0, 6, 0), (6, .getfield 28, 9, 0), (9, .iload_n 1, 10, 0), (10, .aaload, 11, 0), (11, .getfield 109, 14, 0), (14, .getfield 64, 17, 0), (17, .ireturn, 18, 0)]
theorem T_X11_length_ok : T_X11_length.all (rowB cX11_length) = true := by decide +kernel
def th_X11_length : List (Nat × Nat) := []
def sw_X11_length : List (Nat × (List (Int32 × Nat) × Nat)) := []
theorem sw_X11_length_ok : ∀ q ∈ sw_X11_length, swS cX11_length q := fun _ h => absurd h List.not_mem_nil
def na_X11_length : List (Nat × Nat) := [(316, 2)]
def ca_X11_length {R' : Type} (F : Nat) : List (Nat × cFn R') := [(316, n_X11_needLine (f_X11_needLine F))]
theorem ca_X11_length_ok {R' : Type} {q : cL} (hst : q.1.stackTraces = false) {D : Nat} (hD : 7 ≤ D) (F : Nat) : ∀ x ∈ (ca_X11_length (R' := R') F), 1 ≤ D ∧ ceS q RX11 (D - 1) x.1 x.2 := List.forall_mem_cons.mpr ⟨⟨by omega, n_X11_needLine_ok (k := 105) (lw_good_of (tb_ok 640 (by decide +kernel)) rfl) (fun a0 a1 M r h => c_X11_needLine hst (by omega) F a0 a1 M r h)⟩, fun _ h => absurd h List.not_mem_nil⟩
theorem e_X11_length_0 (F : Nat) (x0 : Nat) (x1 : Int32) (M : cM) : b_X11_length_0 F x0 x1 M = run T_X11_length P_RX11 false 0 (naL na_X11_length) (caL (ca_X11_length F)) (lkN th_X11_length) (lkN sw_X11_length) krTI kxTI (spL []) (KL []) 13 0 [some (.ref x0), some (.int x1)] [] M := rfl
theorem ok_X11_length_0 {X : cCtx} {D : Nat} {r : Nat × Int32 × cM} (G : FX X 2 (eTI r) cX11_length RX11 0 D) {F : Nat} (hca : ∀ x ∈ (ca_X11_length (R' := Nat × Int32 × cM) F), 1 ≤ D ∧ ceS X.1 RX11 (D - 1) x.1 x.2) : ∀ x0 x1 M, f_X11_length_0 F x0 x1 M = some r → WX X 2 (eTI r) 0 [some (.ref x0), some (.int x1)] [] M := by
  intro x0 x1 M h
  exact seg_ok G P_RX11_ok T_X11_length_ok hca (fun _ h => absurd h List.not_mem_nil) sw_X11_length_ok krTI_ok kxTI_ok (fun _ h => absurd h List.not_mem_nil) ((e_X11_length_0 F x0 x1 M).symm.trans h)
theorem c_X11_length {q : cL} (hst : q.1.stackTraces = false) {D : Nat} (hD : 7 ≤ D) (F : Nat) (a0 : Nat) (a1 : Int32) (M : cM) (r : Nat × Int32 × cM) (h : f_X11_length F a0 a1 M = some r) : CTx q yX11_length (.code yX11_length cX11_length 2 (some .int)) D [.ref a0, .int a1] M (eTI r) ∧ ∃ fs, M[a0]? = some (.inr (9, fs)) := by
  unfold f_X11_length at h
  split at h
  · next hi => exact ⟨CTx_of (own := RX11) (rk := 0) hst (by decide +kernel) rfl (rfl) (Nat.le_of_ble_eq_true rfl) (fun X hX G => by subst hX; exact ok_X11_length_0 G (ca_X11_length_ok hst hD F) a0 a1 M h), isC_of hi⟩
  · cases h
-- PatchbayScript.signAt(II)C
def T_X11_signAt : List cRow := [(0, .aload_n 0, 1, 0), (1, .iload_n 1, 2, 0), (2, .invokevirtual 105, 5, 0), (5, .aload_n 0, 6, 0), (6, .getfield 28, 9, 0), (9, .iload_n 1, 10, 0), (10, .aaload, 11, 0), (11, .getfield 109, 14, 0), (14, .astore_n 3, 15, 0), (15, .iload_n 2, 16, 0), (16, .ifCond .lt 11, 19, 27), (19, .iload_n 2, 20, 0), (20, .aload_n 3, 21, 0), (21, .getfield 64, 24, 0), (24, .if_icmp .lt 13, 27, 37), (27, .new 112, 30, 0), (37, .aload_n 3, 38, 0), (38, .iload_n 2, 39, 0), (39, .invokevirtual 117, 42, 0), (42, .ireturn, 43, 0)]
theorem T_X11_signAt_ok : T_X11_signAt.all (rowB cX11_signAt) = true := by decide +kernel
def th_X11_signAt : List (Nat × Nat) := [(27, 3)]
theorem th_X11_signAt_ok {D : Nat} (hD : 6 ≤ D) : ∀ q ∈ th_X11_signAt, 6 ≤ D ∧ thS RX11 cX11_signAt q := List.forall_mem_cons.mpr ⟨⟨hD, ⟨112, 116, 114, "the text has no such sign", thk_RX11_3_116 (by decide), by decide +kernel, by decide +kernel, Or.inl ⟨by decide +kernel, by decide +kernel, by decide +kernel⟩⟩⟩, fun _ h => absurd h List.not_mem_nil⟩
def sw_X11_signAt : List (Nat × (List (Int32 × Nat) × Nat)) := []
theorem sw_X11_signAt_ok : ∀ q ∈ sw_X11_signAt, swS cX11_signAt q := fun _ h => absurd h List.not_mem_nil
def na_X11_signAt : List (Nat × Nat) := [(316, 2), (352, 2)]
def ca_X11_signAt {R' : Type} (F : Nat) : List (Nat × cFn R') := [(316, n_X11_needLine (f_X11_needLine F)), (352, n_X10_at (f_X10_at F))]
theorem ca_X11_signAt_ok {R' : Type} {q : cL} (hst : q.1.stackTraces = false) {D : Nat} (hD : 7 ≤ D) (F : Nat) : ∀ x ∈ (ca_X11_signAt (R' := R') F), 1 ≤ D ∧ ceS q RX11 (D - 1) x.1 x.2 := List.forall_mem_cons.mpr ⟨⟨by omega, n_X11_needLine_ok (k := 105) (lw_good_of (tb_ok 640 (by decide +kernel)) rfl) (fun a0 a1 M r h => c_X11_needLine hst (by omega) F a0 a1 M r h)⟩, List.forall_mem_cons.mpr ⟨⟨by omega, n_X10_at_ok (k := 117) (lw_good_of (tb_ok 668 (by decide +kernel)) rfl) (fun a0 a1 M r h => c_X10_at hst (by omega) F a0 a1 M r h)⟩, fun _ h => absurd h List.not_mem_nil⟩⟩
theorem e_X11_signAt_0 (F : Nat) (x0 : Nat) (x1 : Int32) (x2 : Int32) (M : cM) : b_X11_signAt_0 F x0 x1 x2 M = run T_X11_signAt P_RX11 false 2 (naL na_X11_signAt) (caL (ca_X11_signAt F)) (lkN th_X11_signAt) (lkN sw_X11_signAt) krTI kxTI (spL []) (KL []) 23 0 [some (.ref x0), some (.int x1), some (.int x2), none] [] M := rfl
theorem ok_X11_signAt_0 {X : cCtx} {D : Nat} {r : Nat × Int32 × cM} (G : FX X 4 (eTI r) cX11_signAt RX11 2 D) (h6 : 6 ≤ D) {F : Nat} (hca : ∀ x ∈ (ca_X11_signAt (R' := Nat × Int32 × cM) F), 1 ≤ D ∧ ceS X.1 RX11 (D - 1) x.1 x.2) : ∀ x0 x1 x2 M, f_X11_signAt_0 F x0 x1 x2 M = some r → WX X 4 (eTI r) 0 [some (.ref x0), some (.int x1), some (.int x2), none] [] M := by
  intro x0 x1 x2 M h
  exact seg_ok G P_RX11_ok T_X11_signAt_ok hca (th_X11_signAt_ok h6) sw_X11_signAt_ok krTI_ok kxTI_ok (fun _ h => absurd h List.not_mem_nil) ((e_X11_signAt_0 F x0 x1 x2 M).symm.trans h)
theorem c_X11_signAt {q : cL} (hst : q.1.stackTraces = false) {D : Nat} (hD : 7 ≤ D) (F : Nat) (a0 : Nat) (a1 : Int32) (a2 : Int32) (M : cM) (r : Nat × Int32 × cM) (h : f_X11_signAt F a0 a1 a2 M = some r) : CTx q yX11_signAt (.code yX11_signAt cX11_signAt 4 (some .char)) D [.ref a0, .int a1, .int a2] M (eTI r) ∧ ∃ fs, M[a0]? = some (.inr (9, fs)) := by
  unfold f_X11_signAt at h
  split at h
  · next hi => exact ⟨CTx_of (own := RX11) (rk := 2) hst (by decide +kernel) rfl (rfl) (Nat.le_of_ble_eq_true rfl) (fun X hX G => by subst hX; exact ok_X11_signAt_0 G (by omega) (ca_X11_signAt_ok hst hD F) a0 a1 a2 M h), isC_of hi⟩
  · cases h
-- PatchbayScript.placeOf(II)I
def T_X11_placeOf : List cRow := [(0, .aload_n 0, 1, 0), (1, .iload_n 1, 2, 0), (2, .invokevirtual 105, 5, 0), (5, .iload_n 2, 6, 0), (6, .ifCond .lt 9, 9, 15), (9, .iload_n 2, 10, 0), (10, .bipush 30, 12, 0), (12, .if_icmp .lt 13, 15, 25), (15, .new 57, 18, 0), (25, .aload_n 0, 26, 0), (26, .getfield 28, 29, 0), (29, .iload_n 1, 30, 0), (30, .aaload, 31, 0), (31, .getfield 109, 34, 0), (34, .iload_n 2, 35, 0), (35, .invokevirtual 123, 38, 0), (38, .ireturn, 39, 0)]
theorem T_X11_placeOf_ok : T_X11_placeOf.all (rowB cX11_placeOf) = true := by decide +kernel
def th_X11_placeOf : List (Nat × Nat) := [(15, 1)]
theorem th_X11_placeOf_ok {D : Nat} (hD : 6 ≤ D) : ∀ q ∈ th_X11_placeOf, 6 ≤ D ∧ thS RX11 cX11_placeOf q := List.forall_mem_cons.mpr ⟨⟨hD, ⟨57, 61, 121, "there is no such spot", thk_RX11_1_61 (by decide), by decide +kernel, by decide +kernel, Or.inl ⟨by decide +kernel, by decide +kernel, by decide +kernel⟩⟩⟩, fun _ h => absurd h List.not_mem_nil⟩
def sw_X11_placeOf : List (Nat × (List (Int32 × Nat) × Nat)) := []
theorem sw_X11_placeOf_ok : ∀ q ∈ sw_X11_placeOf, swS cX11_placeOf q := fun _ h => absurd h List.not_mem_nil
def na_X11_placeOf : List (Nat × Nat) := [(316, 2), (370, 2)]
def ca_X11_placeOf {R' : Type} (F : Nat) : List (Nat × cFn R') := [(316, n_X11_needLine (f_X11_needLine F)), (370, n_X10_placeOfSpot (f_X10_placeOfSpot F))]
theorem ca_X11_placeOf_ok {R' : Type} {q : cL} (hst : q.1.stackTraces = false) {D : Nat} (hD : 7 ≤ D) (F : Nat) : ∀ x ∈ (ca_X11_placeOf (R' := R') F), 1 ≤ D ∧ ceS q RX11 (D - 1) x.1 x.2 := List.forall_mem_cons.mpr ⟨⟨by omega, n_X11_needLine_ok (k := 105) (lw_good_of (tb_ok 640 (by decide +kernel)) rfl) (fun a0 a1 M r h => c_X11_needLine hst (by omega) F a0 a1 M r h)⟩, List.forall_mem_cons.mpr ⟨⟨by omega, n_X10_placeOfSpot_ok (k := 123) (lw_good_of (tb_ok 677 (by decide +kernel)) rfl) (fun a0 a1 M r h => c_X10_placeOfSpot hst (by omega) F a0 a1 M r h)⟩, fun _ h => absurd h List.not_mem_nil⟩⟩
theorem e_X11_placeOf_0 (F : Nat) (x0 : Nat) (x1 : Int32) (x2 : Int32) (M : cM) : b_X11_placeOf_0 F x0 x1 x2 M = run T_X11_placeOf P_RX11 false 0 (naL na_X11_placeOf) (caL (ca_X11_placeOf F)) (lkN th_X11_placeOf) (lkN sw_X11_placeOf) krTI kxTI (spL []) (KL []) 20 0 [some (.ref x0), some (.int x1), some (.int x2)] [] M := rfl
theorem ok_X11_placeOf_0 {X : cCtx} {D : Nat} {r : Nat × Int32 × cM} (G : FX X 3 (eTI r) cX11_placeOf RX11 0 D) (h6 : 6 ≤ D) {F : Nat} (hca : ∀ x ∈ (ca_X11_placeOf (R' := Nat × Int32 × cM) F), 1 ≤ D ∧ ceS X.1 RX11 (D - 1) x.1 x.2) : ∀ x0 x1 x2 M, f_X11_placeOf_0 F x0 x1 x2 M = some r → WX X 3 (eTI r) 0 [some (.ref x0), some (.int x1), some (.int x2)] [] M := by
  intro x0 x1 x2 M h
  exact seg_ok G P_RX11_ok T_X11_placeOf_ok hca (th_X11_placeOf_ok h6) sw_X11_placeOf_ok krTI_ok kxTI_ok (fun _ h => absurd h List.not_mem_nil) ((e_X11_placeOf_0 F x0 x1 x2 M).symm.trans h)
theorem c_X11_placeOf {q : cL} (hst : q.1.stackTraces = false) {D : Nat} (hD : 7 ≤ D) (F : Nat) (a0 : Nat) (a1 : Int32) (a2 : Int32) (M : cM) (r : Nat × Int32 × cM) (h : f_X11_placeOf F a0 a1 a2 M = some r) : CTx q yX11_placeOf (.code yX11_placeOf cX11_placeOf 3 (some .int)) D [.ref a0, .int a1, .int a2] M (eTI r) ∧ ∃ fs, M[a0]? = some (.inr (9, fs)) := by
  unfold f_X11_placeOf at h
  split at h
  · next hi => exact ⟨CTx_of (own := RX11) (rk := 0) hst (by decide +kernel) rfl (rfl) (Nat.le_of_ble_eq_true rfl) (fun X hX G => by subst hX; exact ok_X11_placeOf_0 G (by omega) (ca_X11_placeOf_ok hst hD F) a0 a1 a2 M h), isC_of hi⟩
  · cases h
-- PatchbayScript.needTask(I)V
def T_X11_needTask : List cRow := [(0, .iload_n 1, 1, 0), (1, .ifCond .lt 8, 4, 9), (4, .iload_n 1, 5, 0), (5, .iconst 3, 6, 0), (6, .if_icmp .lt 14, 9, 20), (9, .new 112, 12, 0), (20, .return_, 21, 0)]
theorem T_X11_needTask_ok : T_X11_needTask.all (rowB cX11_needTask) = true := by decide +kernel
def th_X11_needTask : List (Nat × Nat) := [(9, 3)]
theorem th_X11_needTask_ok {D : Nat} (hD : 6 ≤ D) : ∀ q ∈ th_X11_needTask, 6 ≤ D ∧ thS RX11 cX11_needTask q := List.forall_mem_cons.mpr ⟨⟨hD, ⟨112, 116, 275, "there is no such task", thk_RX11_3_116 (by decide), by decide +kernel, by decide +kernel, Or.inr ⟨by decide +kernel, by decide +kernel, by decide +kernel⟩⟩⟩, fun _ h => absurd h List.not_mem_nil⟩
def sw_X11_needTask : List (Nat × (List (Int32 × Nat) × Nat)) := []
theorem sw_X11_needTask_ok : ∀ q ∈ sw_X11_needTask, swS cX11_needTask q := fun _ h => absurd h List.not_mem_nil
def na_X11_needTask : List (Nat × Nat) := []
def ca_X11_needTask {R' : Type} (F : Nat) : List (Nat × cFn R') := []
theorem ca_X11_needTask_ok {R' : Type} {q : cL} (hst : q.1.stackTraces = false) {D : Nat} (hD : 6 ≤ D) (F : Nat) : ∀ x ∈ (ca_X11_needTask (R' := R') F), 1 ≤ D ∧ ceS q RX11 (D - 1) x.1 x.2 := fun _ h => absurd h List.not_mem_nil
theorem e_X11_needTask_0 (F : Nat) (x0 : Nat) (x1 : Int32) (M : cM) : b_X11_needTask_0 F x0 x1 M = run T_X11_needTask P_RX11 false 5 (naL na_X11_needTask) (caL (ca_X11_needTask F)) (lkN th_X11_needTask) (lkN sw_X11_needTask) krTV kxTV (spL []) (KL []) 10 0 [some (.ref x0), some (.int x1)] [] M := rfl
theorem ok_X11_needTask_0 {X : cCtx} {D : Nat} {r : Nat × cM} (G : FX X 2 (eTV r) cX11_needTask RX11 5 D) (h6 : 6 ≤ D) {F : Nat} (hca : ∀ x ∈ (ca_X11_needTask (R' := Nat × cM) F), 1 ≤ D ∧ ceS X.1 RX11 (D - 1) x.1 x.2) : ∀ x0 x1 M, f_X11_needTask_0 F x0 x1 M = some r → WX X 2 (eTV r) 0 [some (.ref x0), some (.int x1)] [] M := by
  intro x0 x1 M h
  exact seg_ok G P_RX11_ok T_X11_needTask_ok hca (th_X11_needTask_ok h6) sw_X11_needTask_ok krTV_ok kxTV_ok (fun _ h => absurd h List.not_mem_nil) ((e_X11_needTask_0 F x0 x1 M).symm.trans h)
theorem c_X11_needTask {q : cL} (hst : q.1.stackTraces = false) {D : Nat} (hD : 6 ≤ D) (F : Nat) (a0 : Nat) (a1 : Int32) (M : cM) (r : Nat × cM) (h : f_X11_needTask F a0 a1 M = some r) : CTx q yX11_needTask (.code yX11_needTask cX11_needTask 2 none) D [.ref a0, .int a1] M (eTV r) ∧ ∃ fs, M[a0]? = some (.inr (9, fs)) := by
  unfold f_X11_needTask at h
  split at h
  · next hi => exact ⟨CTx_of (own := RX11) (rk := 5) hst (by decide +kernel) rfl (rfl) (Nat.le_of_ble_eq_true rfl) (fun X hX G => by subst hX; exact ok_X11_needTask_0 G (by omega) (ca_X11_needTask_ok hst hD F) a0 a1 M h), isC_of hi⟩
  · cases h
def n_X11_needTask {R' : Type} (f : Nat → Int32 → cM → Option (Nat × cM)) : cFn R' := fun as M κ κx => match as with
  | [.ref a0, .int a1] => (f a0 a1 M).bind fun p => if p.1 = 0 then κ none p.2 else κx p.1 p.2
  | _ => none
theorem w_X11_needTask : ∀ w ∈ [Cond.instanceMethod yX11_needTask, .selects yX11_needTask.cls yX11_needTask yX11_needTask, .initialized yX11_needTask.cls, .code yX11_needTask cX11_needTask 2 none], w ∈ lw_good := List.forall_mem_cons.mpr ⟨lw_good_of (tb_ok 687 (by decide +kernel)) rfl, List.forall_mem_cons.mpr ⟨lw_good_of (ts_ok 4 (by decide +kernel)) rfl, List.forall_mem_cons.mpr ⟨lw_good_of (tb_ok 1 (by decide +kernel)) rfl, List.forall_mem_cons.mpr ⟨lw_good_of (tb_ok 688 (by decide +kernel)) rfl, fun _ h => absurd h List.not_mem_nil⟩⟩⟩⟩
theorem n_X11_needTask_ok {R' : Type} {q : cL} {own : String} {d k : Nat} {f : Nat → Int32 → cM → Option (Nat × cM)} (hl : Cond.methodLink own k yX11_needTask ∈ lw_good) (hf : ∀ a0 a1 M r, f a0 a1 M = some r → CTx q yX11_needTask (.code yX11_needTask cX11_needTask 2 none) d [.ref a0, .int a1] M (eTV r) ∧ ∃ fs, M[a0]? = some (.inr (9, fs))) : ceS q own d (3 * k + 1) (n_X11_needTask (R' := R') f) := by
  intro as M κ κx r h
  unfold n_X11_needTask at h
  split at h
  · obtain ⟨p, h1, h2⟩ := Option.bind_eq_some_iff.mp h
    obtain ⟨hc, fs, ha⟩ := hf _ _ _ _ h1
    exact ⟨eTV p, fun (h0 : p.1 = 0) => by rw [if_pos h0] at h2; exact h2, fun (h0 : p.1 ≠ 0) => by rw [if_neg h0] at h2; exact h2, Or.inr (Or.inl ⟨yX11_needTask, cX11_needTask, 2, none, k, 1, _, _, 9, TX11, 10, fs, rfl, rfl, hc, ha, rfl, List.forall_mem_cons.mpr ⟨hl, w_X11_needTask⟩, ⟨rfl, by decide +kernel, by decide +kernel, by decide +kernel⟩, rfl, by decide⟩)⟩
  · cases h
-- PatchbayScript.show(II)I
def T_X11_show : List cRow := [(0, .aload_n 0, 1, 0), (1, .iload_n 1, 2, 0), (2, .invokevirtual 127, 5, 0), (5, .aload_n 0, 6, 0), (6, .iload_n 2, 7, 0), (7, .invokevirtual 105, 10, 0), (10, .aload_n 0, 11, 0), (11, .getfield 21, 14, 0), (14, .iload_n 1, 15, 0), (15, .aaload, 16, 0), (16, .astore_n 3, 17, 0), (17, .aload_n 0, 18, 0), (18, .getfield 10, 21, 0), (21, .getfield 64, 24, 0), (24, .ifCond .ne 13, 27, 37), (27, .new 68, 30, 0), (37, .aload_n 3, 38, 0), (38, .getfield 132, 41, 0), (41, .iconst 4, 42, 0), (42, .if_icmp .lt 13, 45, 55), (45, .new 68, 48, 0), (55, .aload_n 3, 56, 0), (56, .iload_n 2, 57, 0), (57, .invokevirtual 137, 60, 0), (60, .ifCond .eq 13, 63, 73), (63, .new 68, 66, 0), (73, .aload_n 3, 74, 0), (74, .aload_n 0, 75, 0), (75, .getfield 28, 78, 0), (78, .iload_n 2, 79, 0), (79, .aaload, 80, 0), (80, .getfield 109, 83, 0), (83, .aload_n 0, 84, 0), (84, .getfield 10, 87, 0), (87, .iload_n 2, 88, 0), (88, .invokevirtual 143, 91, 0), (91, .istore 4, 93, 0), (93, .aload_n 0, 94, 0), (94, .getfield 28, 97, 0), (97, .iload_n 2, 98, 0), (98, .aaload, 99, 0), (99, .iload_n 1, 100, 0), (100, .iload 4, 102, 0), (102, .invokestatic 147, 105, 0), (105, .aload_n 0, 106, 0), (106, .getfield 10, 109, 0), (109, .invokevirtual 151, 112, 0), (112, .aload_n 0, 113, 0), (113, .getfield 10, 116, 0), (116, .invokevirtual 94, 119, 0), (119, .aload_n 3, 120, 0), (120, .getfield 132, 123, 0), (123, .ireturn, 124, 0)]
theorem T_X11_show_ok : T_X11_show.all (rowB cX11_show) = true := by decide +kernel
def th_X11_show : List (Nat × Nat) := [(27, 2), (45, 2), (63, 2)]
theorem th_X11_show_ok {D : Nat} (hD : 6 ≤ D) : ∀ q ∈ th_X11_show, 6 ≤ D ∧ thS RX11 cX11_show q := List.forall_mem_cons.mpr ⟨⟨hD, ⟨68, 72, 130, "nothing is shown", thk_RX11_2_72 (by decide), by decide +kernel, by decide +kernel, Or.inl ⟨by decide +kernel, by decide +kernel, by decide +kernel⟩⟩⟩, List.forall_mem_cons.mpr ⟨⟨hD, ⟨68, 72, 135, "the task has as many examples as it may have", thk_RX11_2_72 (by decide), by decide +kernel, by decide +kernel, Or.inl ⟨by decide +kernel, by decide +kernel, by decide +kernel⟩⟩⟩, List.forall_mem_cons.mpr ⟨⟨hD, ⟨68, 72, 141, "the task has an example on this line", thk_RX11_2_72 (by decide), by decide +kernel, by decide +kernel, Or.inl ⟨by decide +kernel, by decide +kernel, by decide +kernel⟩⟩⟩, fun _ h => absurd h List.not_mem_nil⟩⟩⟩
def sw_X11_show : List (Nat × (List (Int32 × Nat) × Nat)) := []
theorem sw_X11_show_ok : ∀ q ∈ sw_X11_show, swS cX11_show q := fun _ h => absurd h List.not_mem_nil
def na_X11_show : List (Nat × Nat) := [(382, 2), (316, 2), (412, 2), (430, 4), (441, 2), (454, 3), (283, 1)]
def ca_X11_show {R' : Type} (F : Nat) : List (Nat × cFn R') := [(382, n_X11_needTask (f_X11_needTask F)), (316, n_X11_needLine (f_X11_needLine F)), (412, n_X9_hasExampleOn (f_X9_hasExampleOn F)), (430, n_X9_addExample (f_X9_addExample F)), (441, n_X5_stepOfExample (f_X5_stepOfExample F)), (454, n_X5_addStep (f_X5_addStep F)), (283, n_X10_clear (f_X10_clear F))]
theorem ca_X11_show_ok {R' : Type} {q : cL} (hst : q.1.stackTraces = false) {D : Nat} (hD : 7 ≤ D) (F : Nat) : ∀ x ∈ (ca_X11_show (R' := R') F), 1 ≤ D ∧ ceS q RX11 (D - 1) x.1 x.2 := List.forall_mem_cons.mpr ⟨⟨by omega, n_X11_needTask_ok (k := 127) (lw_good_of (tb_ok 685 (by decide +kernel)) rfl) (fun a0 a1 M r h => c_X11_needTask hst (by omega) F a0 a1 M r h)⟩, List.forall_mem_cons.mpr ⟨⟨by omega, n_X11_needLine_ok (k := 105) (lw_good_of (tb_ok 640 (by decide +kernel)) rfl) (fun a0 a1 M r h => c_X11_needLine hst (by omega) F a0 a1 M r h)⟩, List.forall_mem_cons.mpr ⟨⟨by omega, n_X9_hasExampleOn_ok (k := 137) (lw_good_of (tb_ok 550 (by decide +kernel)) rfl) (fun a0 a1 M r h => c_X9_hasExampleOn hst (by omega) F a0 a1 M r h)⟩, List.forall_mem_cons.mpr ⟨⟨by omega, n_X9_addExample_ok (k := 143) (lw_good_of (tb_ok 693 (by decide +kernel)) rfl) (fun a0 a1 a2 a3 M r h => c_X9_addExample hst (by omega) F a0 a1 a2 a3 M r h)⟩, List.forall_mem_cons.mpr ⟨⟨by omega, n_X5_stepOfExample_ok (k := 147) (lw_good_of (tb_ok 701 (by decide +kernel)) rfl) (fun a0 a1 M r h => c_X5_stepOfExample hst (by omega) F a0 a1 M r h)⟩, List.forall_mem_cons.mpr ⟨⟨by omega, n_X5_addStep_ok (k := 151) (lw_good_of (tb_ok 628 (by decide +kernel)) rfl) (fun a0 a1 a2 M r h => c_X5_addStep hst (by omega) F a0 a1 a2 M r h)⟩, List.forall_mem_cons.mpr ⟨⟨by omega, n_X10_clear_ok (k := 94) (lw_good_of (tb_ok 534 (by decide +kernel)) rfl) (fun a0 M r h => c_X10_clear hst (by omega) F a0 M r h)⟩, fun _ h => absurd h List.not_mem_nil⟩⟩⟩⟩⟩⟩⟩
def kd_X11_show_73 (g : Nat → Int32 → Int32 → Nat → cM → Option (Nat × Int32 × cM)) : cKf (Nat × Int32 × cM) := fun vs st M => (lR vs 0).bind fun x0 => (lI vs 1).bind fun x1 => (lI vs 2).bind fun x2 => (lR vs 3).bind fun x3 => match st with
  | [] => g x0 x1 x2 x3 M
  | _ => none
theorem kf_X11_show_73 {X : cCtx} {o : cO} {r : Nat × Int32 × cM} {g : Nat → Int32 → Int32 → Nat → cM → Option (Nat × Int32 × cM)} (hg : ∀ x0 x1 x2 x3 M, g x0 x1 x2 x3 M = some r → WX X 5 o 73 [some (.ref x0), some (.int x1), some (.int x2), some (.ref x3), none] [] M) : ∀ vs st M, kd_X11_show_73 g vs st M = some r → WX X 5 o 73 vs st M := by
  intro vs st M h
  unfold kd_X11_show_73 at h
  obtain ⟨x0, h0, h⟩ := Option.bind_eq_some_iff.mp h
  obtain ⟨x1, h1, h⟩ := Option.bind_eq_some_iff.mp h
  obtain ⟨x2, h2, h⟩ := Option.bind_eq_some_iff.mp h
  obtain ⟨x3, h3, h⟩ := Option.bind_eq_some_iff.mp h
  split at h
  · exact WX_weak (hg _ _ _ _ _ h) rfl ⟨lR_of h0, lI_of h1, lI_of h2, lR_of h3, trivial⟩
  · cases h
theorem e_X11_show_73 (F : Nat) (x0 : Nat) (x1 : Int32) (x2 : Int32) (x3 : Nat) (M : cM) : b_X11_show_73 F x0 x1 x2 x3 M = run T_X11_show P_RX11 false 0 (naL na_X11_show) (caL (ca_X11_show F)) (lkN th_X11_show) (lkN sw_X11_show) krTI kxTI (spL []) (KL []) 56 73 [some (.ref x0), some (.int x1), some (.int x2), some (.ref x3), none] [] M := rfl
theorem ok_X11_show_73 {X : cCtx} {D : Nat} {r : Nat × Int32 × cM} (G : FX X 5 (eTI r) cX11_show RX11 0 D) (h6 : 6 ≤ D) {F : Nat} (hca : ∀ x ∈ (ca_X11_show (R' := Nat × Int32 × cM) F), 1 ≤ D ∧ ceS X.1 RX11 (D - 1) x.1 x.2) : ∀ x0 x1 x2 x3 M, f_X11_show_73 F x0 x1 x2 x3 M = some r → WX X 5 (eTI r) 73 [some (.ref x0), some (.int x1), some (.int x2), some (.ref x3), none] [] M := by
  intro x0 x1 x2 x3 M h
  exact seg_ok G P_RX11_ok T_X11_show_ok hca (th_X11_show_ok h6) sw_X11_show_ok krTI_ok kxTI_ok (fun _ h => absurd h List.not_mem_nil) ((e_X11_show_73 F x0 x1 x2 x3 M).symm.trans h)
theorem e_X11_show_0 (F : Nat) (t73 : Nat → Int32 → Int32 → Nat → cM → Option (Nat × Int32 × cM)) (x0 : Nat) (x1 : Int32) (x2 : Int32) (M : cM) : b_X11_show_0 F t73 x0 x1 x2 M = run T_X11_show P_RX11 false 0 (naL na_X11_show) (caL (ca_X11_show F)) (lkN th_X11_show) (lkN sw_X11_show) krTI kxTI (spL [73]) (KL [(73, kd_X11_show_73 t73)]) 56 0 [some (.ref x0), some (.int x1), some (.int x2), none, none] [] M := rfl
theorem ok_X11_show_0 {X : cCtx} {D : Nat} {r : Nat × Int32 × cM} (G : FX X 5 (eTI r) cX11_show RX11 0 D) (h6 : 6 ≤ D) {F : Nat} (hca : ∀ x ∈ (ca_X11_show (R' := Nat × Int32 × cM) F), 1 ≤ D ∧ ceS X.1 RX11 (D - 1) x.1 x.2) : ∀ x0 x1 x2 M, f_X11_show_0 F x0 x1 x2 M = some r → WX X 5 (eTI r) 0 [some (.ref x0), some (.int x1), some (.int x2), none, none] [] M := by
  intro x0 x1 x2 M h
  exact seg_ok G P_RX11_ok T_X11_show_ok hca (th_X11_show_ok h6) sw_X11_show_ok krTI_ok kxTI_ok (List.forall_mem_cons.mpr ⟨kf_X11_show_73 (ok_X11_show_73 G h6 hca), fun _ h => absurd h List.not_mem_nil⟩) ((e_X11_show_0 F (f_X11_show_73 F) x0 x1 x2 M).symm.trans h)
theorem c_X11_show {q : cL} (hst : q.1.stackTraces = false) {D : Nat} (hD : 7 ≤ D) (F : Nat) (a0 : Nat) (a1 : Int32) (a2 : Int32) (M : cM) (r : Nat × Int32 × cM) (h : f_X11_show F a0 a1 a2 M = some r) : CTx q yX11_show (.code yX11_show cX11_show 5 (some .int)) D [.ref a0, .int a1, .int a2] M (eTI r) ∧ ∃ fs, M[a0]? = some (.inr (9, fs)) := by
  unfold f_X11_show at h
  split at h
  · next hi => exact ⟨CTx_of (own := RX11) (rk := 0) hst (by decide +kernel) rfl (rfl) (Nat.le_of_ble_eq_true rfl) (fun X hX G => by subst hX; exact ok_X11_show_0 G (by omega) (ca_X11_show_ok hst hD F) a0 a1 a2 M h), isC_of hi⟩
  · cases h
