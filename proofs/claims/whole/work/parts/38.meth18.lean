/-! METHODS, part 18 (laid by wip/whole/tools/gen.py) -/
-- PatchbayScriptModel.question(I)I
def T_X12_question : List cRow := [(0, .aload_n 0, 1, 0), (1, .iload_n 1, 2, 0), (2, .invokestatic 287, 5, 0), (5, .ifCond .eq 7, 8, 12), (8, .iconst 0, 9, 0), (9, .goto 4, 12, 13), (12, .iconst 1, 13, 0), (13, .putfield 196, 16, 0), (16, .aload_n 0, 17, 0), (17, .getfield 196, 20, 0), (20, .ifCond .le 5, 23, 25), (23, .iconst 0, 24, 0), (24, .ireturn, 25, 0), (25, .aload_n 0, 26, 0), (26, .iload_n 1, 27, 0), (27, .invokevirtual 394, 30, 0), (30, .iconst 0, 31, 0), (31, .istore_n 2, 32, 0), (32, .iconst 0, 33, 0), (33, .istore_n 3, 34, 0), (34, .iload_n 3, 35, 0), (35, .aload_n 0, 36, 0), (36, .getfield 366, 39, 0), (39, .if_icmp .ge 31, 42, 70), (42, .iload_n 2, 43, 0), (43, .aload_n 0, 44, 0), (44, .bipush 66, 46, 0), (46, .iload_n 3, 47, 0), (47, .iadd, 48, 0), (48, .iload_n 1, 49, 0), (49, .invokevirtual 379, 52, 0), (52, .ifCond .eq 9, 55, 61), (55, .iconst 1, 56, 0), (56, .iload_n 3, 57, 0), (57, .ishl, 58, 0), (58, .goto 4, 61, 62), (61, .iconst 0, 62, 0), (62, .ior, 63, 0), (63, .istore_n 2, 64, 0), (64, .iinc 3 1, 67, 0), (67, .goto (-33), 70, 34), (70, .iconst (-1), 71, 0), (71, .istore_n 3, 72, 0), (72, .aload_n 0, 73, 0), (73, .getfield 204, 76, 0), (76, .iconst 1, 77, 0), (77, .isub, 78, 0), (78, .istore 4, 80, 0), (80, .iload 4, 82, 0), (82, .ifCond .lt 36, 85, 118), (85, .aload_n 0, 86, 0), (86, .iload_n 1, 87, 0), (87, .iload 4, 89, 0), (89, .invokevirtual 290, 92, 0), (92, .ifCond .ne 18, 95, 110), (95, .aload_n 0, 96, 0), (96, .iload 4, 98, 0), (98, .iload_n 2, 99, 0), (99, .invokevirtual 397, 102, 0), (102, .ifCond .eq 8, 105, 110), (105, .iload 4, 107, 0), (107, .goto 4, 110, 111), (110, .iload_n 3, 111, 0), (111, .istore_n 3, 112, 0), (112, .iinc 4 (-1), 115, 0), (115, .goto (-35), 118, 80), (118, .iload_n 3, 119, 0), (119, .ireturn, 120, 0)]
theorem T_X12_question_ok : T_X12_question.all (rowB cX12_question) = true := by decide +kernel
def th_X12_question : List (Nat × Nat) := []
def sw_X12_question : List (Nat × (List (Int32 × Nat) × Nat)) := []
theorem sw_X12_question_ok : ∀ q ∈ sw_X12_question, swS cX12_question q := fun _ h => absurd h List.not_mem_nil
def na_X12_question : List (Nat × Nat) := [(861, 1), (1183, 2), (1138, 3), (871, 3), (1192, 3)]
def ca_X12_question {R' : Type} (F : Nat) : List (Nat × cFn R') := [(861, n_X12_isTask (f_X12_isTask F)), (1183, n_X12_countsAll (f_X12_countsAll F)), (1138, n_X12_isFit (f_X12_isFit F)), (871, n_X12_isShownOn (f_X12_isShownOn F)), (1192, n_X12_differ (f_X12_differ F))]
theorem ca_X12_question_ok {R' : Type} {q : cL} (hst : q.1.stackTraces = false) {D : Nat} (hD : 7 ≤ D) (F : Nat) : ∀ x ∈ (ca_X12_question (R' := R') F), 1 ≤ D ∧ ceS q RX12 (D - 1) x.1 x.2 := List.forall_mem_cons.mpr ⟨⟨by omega, n_X12_isTask_ok (k := 287) (lw_good_of (tb_ok 1435 (by decide +kernel)) rfl) (fun a0 M r h => c_X12_isTask hst (by omega) F a0 M r h)⟩, List.forall_mem_cons.mpr ⟨⟨by omega, n_X12_countsAll_ok (k := 394) (lw_good_of (tb_ok 1548 (by decide +kernel)) rfl) (fun a0 a1 M r h => c_X12_countsAll hst (by omega) F a0 a1 M r h)⟩, List.forall_mem_cons.mpr ⟨⟨by omega, n_X12_isFit_ok (k := 379) (lw_good_of (tb_ok 1536 (by decide +kernel)) rfl) (fun a0 a1 a2 M r h => c_X12_isFit hst (by omega) F a0 a1 a2 M r h)⟩, List.forall_mem_cons.mpr ⟨⟨by omega, n_X12_isShownOn_ok (k := 290) (lw_good_of (tb_ok 1438 (by decide +kernel)) rfl) (fun a0 a1 a2 M r h => c_X12_isShownOn hst (by omega) F a0 a1 a2 M r h)⟩, List.forall_mem_cons.mpr ⟨⟨by omega, n_X12_differ_ok (k := 397) (lw_good_of (tb_ok 1560 (by decide +kernel)) rfl) (fun a0 a1 a2 M r h => c_X12_differ hst (by omega) F a0 a1 a2 M r h)⟩, fun _ h => absurd h List.not_mem_nil⟩⟩⟩⟩⟩
def kd_X12_question_13 (g : Nat → Int32 → Nat → Int32 → cM → Option (Int32 × cM)) : cKf (Int32 × cM) := fun vs st M => (lR vs 0).bind fun x0 => (lI vs 1).bind fun x1 => match st with
  | [.int s1, .ref s0] => g x0 x1 s0 s1 M
  | _ => none
theorem kf_X12_question_13 {X : cCtx} {o : cO} {r : Int32 × cM} {g : Nat → Int32 → Nat → Int32 → cM → Option (Int32 × cM)} (hg : ∀ x0 x1 s0 s1 M, g x0 x1 s0 s1 M = some r → WX X 5 o 13 [some (.ref x0), some (.int x1), none, none, none] [.int s1, .ref s0] M) : ∀ vs st M, kd_X12_question_13 g vs st M = some r → WX X 5 o 13 vs st M := by
  intro vs st M h
  unfold kd_X12_question_13 at h
  obtain ⟨x0, h0, h⟩ := Option.bind_eq_some_iff.mp h
  obtain ⟨x1, h1, h⟩ := Option.bind_eq_some_iff.mp h
  split at h
  · exact WX_weak (hg _ _ _ _ _ h) rfl ⟨lR_of h0, lI_of h1, trivial⟩
  · cases h
def kd_X12_question_34 (g : Nat → Int32 → Int32 → Int32 → cM → Option (Int32 × cM)) : cKf (Int32 × cM) := fun vs st M => (lR vs 0).bind fun x0 => (lI vs 1).bind fun x1 => (lI vs 2).bind fun x2 => (lI vs 3).bind fun x3 => match st with
  | [] => g x0 x1 x2 x3 M
  | _ => none
theorem kf_X12_question_34 {X : cCtx} {o : cO} {r : Int32 × cM} {g : Nat → Int32 → Int32 → Int32 → cM → Option (Int32 × cM)} (hg : ∀ x0 x1 x2 x3 M, g x0 x1 x2 x3 M = some r → WX X 5 o 34 [some (.ref x0), some (.int x1), some (.int x2), some (.int x3), none] [] M) : ∀ vs st M, kd_X12_question_34 g vs st M = some r → WX X 5 o 34 vs st M := by
  intro vs st M h
  unfold kd_X12_question_34 at h
  obtain ⟨x0, h0, h⟩ := Option.bind_eq_some_iff.mp h
  obtain ⟨x1, h1, h⟩ := Option.bind_eq_some_iff.mp h
  obtain ⟨x2, h2, h⟩ := Option.bind_eq_some_iff.mp h
  obtain ⟨x3, h3, h⟩ := Option.bind_eq_some_iff.mp h
  split at h
  · exact WX_weak (hg _ _ _ _ _ h) rfl ⟨lR_of h0, lI_of h1, lI_of h2, lI_of h3, trivial⟩
  · cases h
def kd_X12_question_80 (g : Nat → Int32 → Int32 → Int32 → Int32 → cM → Option (Int32 × cM)) : cKf (Int32 × cM) := fun vs st M => (lR vs 0).bind fun x0 => (lI vs 1).bind fun x1 => (lI vs 2).bind fun x2 => (lI vs 3).bind fun x3 => (lI vs 4).bind fun x4 => match st with
  | [] => g x0 x1 x2 x3 x4 M
  | _ => none
theorem kf_X12_question_80 {X : cCtx} {o : cO} {r : Int32 × cM} {g : Nat → Int32 → Int32 → Int32 → Int32 → cM → Option (Int32 × cM)} (hg : ∀ x0 x1 x2 x3 x4 M, g x0 x1 x2 x3 x4 M = some r → WX X 5 o 80 [some (.ref x0), some (.int x1), some (.int x2), some (.int x3), some (.int x4)] [] M) : ∀ vs st M, kd_X12_question_80 g vs st M = some r → WX X 5 o 80 vs st M := by
  intro vs st M h
  unfold kd_X12_question_80 at h
  obtain ⟨x0, h0, h⟩ := Option.bind_eq_some_iff.mp h
  obtain ⟨x1, h1, h⟩ := Option.bind_eq_some_iff.mp h
  obtain ⟨x2, h2, h⟩ := Option.bind_eq_some_iff.mp h
  obtain ⟨x3, h3, h⟩ := Option.bind_eq_some_iff.mp h
  obtain ⟨x4, h4, h⟩ := Option.bind_eq_some_iff.mp h
  split at h
  · exact WX_weak (hg _ _ _ _ _ _ h) rfl ⟨lR_of h0, lI_of h1, lI_of h2, lI_of h3, lI_of h4, trivial⟩
  · cases h
set_option maxRecDepth 20000 in
theorem e_X12_question_80 (F : Nat) (t80 : Nat → Int32 → Int32 → Int32 → Int32 → cM → Option (Int32 × cM)) (x0 : Nat) (x1 : Int32) (x2 : Int32) (x3 : Int32) (x4 : Int32) (M : cM) : b_X12_question_80 F t80 x0 x1 x2 x3 x4 M = run T_X12_question P_RX12 false 0 (naL na_X12_question) (caL (ca_X12_question F)) (lkN th_X12_question) (lkN sw_X12_question) krI kxN (spL [80]) (KL [(80, kd_X12_question_80 t80)]) 71 80 [some (.ref x0), some (.int x1), some (.int x2), some (.int x3), some (.int x4)] [] M := rfl
theorem ok_X12_question_80 {X : cCtx} {D : Nat} {r : Int32 × cM} (G : FX X 5 (eI r) cX12_question RX12 0 D) {F : Nat} (hca : ∀ x ∈ (ca_X12_question (R' := Int32 × cM) F), 1 ≤ D ∧ ceS X.1 RX12 (D - 1) x.1 x.2) (n : Nat) : ∀ x0 x1 x2 x3 x4 M, f_X12_question_80 F n x0 x1 x2 x3 x4 M = some r → WX X 5 (eI r) 80 [some (.ref x0), some (.int x1), some (.int x2), some (.int x3), some (.int x4)] [] M := by
  induction n with
  | zero => intro x0 x1 x2 x3 x4 M h; cases h
  | succ n ih =>
    intro x0 x1 x2 x3 x4 M h
    exact seg_ok G P_RX12_ok T_X12_question_ok hca (fun _ h => absurd h List.not_mem_nil) sw_X12_question_ok krI_ok (kxN_ok (f := eI)) (List.forall_mem_cons.mpr ⟨kf_X12_question_80 (ih), fun _ h => absurd h List.not_mem_nil⟩) ((e_X12_question_80 F (f_X12_question_80 F n) x0 x1 x2 x3 x4 M).symm.trans h)
set_option maxRecDepth 20000 in
theorem e_X12_question_34 (F : Nat) (t34 : Nat → Int32 → Int32 → Int32 → cM → Option (Int32 × cM)) (t80 : Nat → Int32 → Int32 → Int32 → Int32 → cM → Option (Int32 × cM)) (x0 : Nat) (x1 : Int32) (x2 : Int32) (x3 : Int32) (M : cM) : b_X12_question_34 F t34 t80 x0 x1 x2 x3 M = run T_X12_question P_RX12 false 0 (naL na_X12_question) (caL (ca_X12_question F)) (lkN th_X12_question) (lkN sw_X12_question) krI kxN (spL [34, 80]) (KL [(34, kd_X12_question_34 t34), (80, kd_X12_question_80 t80)]) 71 34 [some (.ref x0), some (.int x1), some (.int x2), some (.int x3), none] [] M := rfl
theorem ok_X12_question_34 {X : cCtx} {D : Nat} {r : Int32 × cM} (G : FX X 5 (eI r) cX12_question RX12 0 D) {F : Nat} (hca : ∀ x ∈ (ca_X12_question (R' := Int32 × cM) F), 1 ≤ D ∧ ceS X.1 RX12 (D - 1) x.1 x.2) (n : Nat) : ∀ x0 x1 x2 x3 M, f_X12_question_34 F n x0 x1 x2 x3 M = some r → WX X 5 (eI r) 34 [some (.ref x0), some (.int x1), some (.int x2), some (.int x3), none] [] M := by
  induction n with
  | zero => intro x0 x1 x2 x3 M h; cases h
  | succ n ih =>
    intro x0 x1 x2 x3 M h
    exact seg_ok G P_RX12_ok T_X12_question_ok hca (fun _ h => absurd h List.not_mem_nil) sw_X12_question_ok krI_ok (kxN_ok (f := eI)) (List.forall_mem_cons.mpr ⟨kf_X12_question_34 (ih), List.forall_mem_cons.mpr ⟨kf_X12_question_80 (ok_X12_question_80 G hca F), fun _ h => absurd h List.not_mem_nil⟩⟩) ((e_X12_question_34 F (f_X12_question_34 F n) (f_X12_question_80 F F) x0 x1 x2 x3 M).symm.trans h)
set_option maxRecDepth 20000 in
theorem e_X12_question_13 (F : Nat) (t34 : Nat → Int32 → Int32 → Int32 → cM → Option (Int32 × cM)) (x0 : Nat) (x1 : Int32) (s0 : Nat) (s1 : Int32) (M : cM) : b_X12_question_13 F t34 x0 x1 s0 s1 M = run T_X12_question P_RX12 false 0 (naL na_X12_question) (caL (ca_X12_question F)) (lkN th_X12_question) (lkN sw_X12_question) krI kxN (spL [34]) (KL [(34, kd_X12_question_34 t34)]) 71 13 [some (.ref x0), some (.int x1), none, none, none] [.int s1, .ref s0] M := rfl
theorem ok_X12_question_13 {X : cCtx} {D : Nat} {r : Int32 × cM} (G : FX X 5 (eI r) cX12_question RX12 0 D) {F : Nat} (hca : ∀ x ∈ (ca_X12_question (R' := Int32 × cM) F), 1 ≤ D ∧ ceS X.1 RX12 (D - 1) x.1 x.2) : ∀ x0 x1 s0 s1 M, f_X12_question_13 F x0 x1 s0 s1 M = some r → WX X 5 (eI r) 13 [some (.ref x0), some (.int x1), none, none, none] [.int s1, .ref s0] M := by
  intro x0 x1 s0 s1 M h
  exact seg_ok G P_RX12_ok T_X12_question_ok hca (fun _ h => absurd h List.not_mem_nil) sw_X12_question_ok krI_ok (kxN_ok (f := eI)) (List.forall_mem_cons.mpr ⟨kf_X12_question_34 (ok_X12_question_34 G hca F), fun _ h => absurd h List.not_mem_nil⟩) ((e_X12_question_13 F (f_X12_question_34 F F) x0 x1 s0 s1 M).symm.trans h)
set_option maxRecDepth 20000 in
theorem e_X12_question_0 (F : Nat) (t13 : Nat → Int32 → Nat → Int32 → cM → Option (Int32 × cM)) (x0 : Nat) (x1 : Int32) (M : cM) : b_X12_question_0 F t13 x0 x1 M = run T_X12_question P_RX12 false 0 (naL na_X12_question) (caL (ca_X12_question F)) (lkN th_X12_question) (lkN sw_X12_question) krI kxN (spL [13]) (KL [(13, kd_X12_question_13 t13)]) 71 0 [some (.ref x0), some (.int x1), none, none, none] [] M := rfl
theorem ok_X12_question_0 {X : cCtx} {D : Nat} {r : Int32 × cM} (G : FX X 5 (eI r) cX12_question RX12 0 D) {F : Nat} (hca : ∀ x ∈ (ca_X12_question (R' := Int32 × cM) F), 1 ≤ D ∧ ceS X.1 RX12 (D - 1) x.1 x.2) : ∀ x0 x1 M, f_X12_question_0 F x0 x1 M = some r → WX X 5 (eI r) 0 [some (.ref x0), some (.int x1), none, none, none] [] M := by
  intro x0 x1 M h
  exact seg_ok G P_RX12_ok T_X12_question_ok hca (fun _ h => absurd h List.not_mem_nil) sw_X12_question_ok krI_ok (kxN_ok (f := eI)) (List.forall_mem_cons.mpr ⟨kf_X12_question_13 (ok_X12_question_13 G hca), fun _ h => absurd h List.not_mem_nil⟩) ((e_X12_question_0 F (f_X12_question_13 F) x0 x1 M).symm.trans h)
theorem c_X12_question {q : cL} (hst : q.1.stackTraces = false) {D : Nat} (hD : 7 ≤ D) (F : Nat) (a0 : Nat) (a1 : Int32) (M : cM) (r : Int32 × cM) (h : f_X12_question F a0 a1 M = some r) : CTx q yX12_question (.code yX12_question cX12_question 5 (some .int)) D [.ref a0, .int a1] M (eI r) ∧ ∃ fs, M[a0]? = some (.inr (10, fs)) := by
  unfold f_X12_question at h
  split at h
  · next hi => exact ⟨CTx_of (own := RX12) (rk := 0) hst (by decide +kernel) rfl (rfl) (Nat.le_of_ble_eq_true rfl) (fun X hX G => by subst hX; exact ok_X12_question_0 G (ca_X12_question_ok hst hD F) a0 a1 M h), isC_of hi⟩
  · cases h
-- PatchbayScriptModel.condition(I)I
def T_X12_condition : List cRow := [(0, .aload_n 0, 1, 0), (1, .iload_n 1, 2, 0), (2, .invokestatic 287, 5, 0), (5, .ifCond .eq 7, 8, 12), (8, .iconst 0, 9, 0), (9, .goto 4, 12, 13), (12, .iconst 1, 13, 0), (13, .putfield 196, 16, 0), (16, .aload_n 0, 17, 0), (17, .getfield 196, 20, 0), (20, .ifCond .le 7, 23, 27), (23, .iconst 0, 24, 0), (24, .goto 22, 27, 46), (27, .aload_n 0, 28, 0), (28, .getfield 73, 31, 0), (31, .iload_n 1, 32, 0), (32, .baload, 33, 0), (33, .ifCond .eq 12, 36, 45), (36, .aload_n 0, 37, 0), (37, .getfield 77, 40, 0), (40, .iload_n 1, 41, 0), (41, .iaload, 42, 0), (42, .goto 4, 45, 46), (45, .iconst (-1), 46, 0), (46, .ireturn, 47, 0)]
theorem T_X12_condition_ok : T_X12_condition.all (rowB cX12_condition) = true := by decide +kernel
def th_X12_condition : List (Nat × Nat) := []
def sw_X12_condition : List (Nat × (List (Int32 × Nat) × Nat)) := []
theorem sw_X12_condition_ok : ∀ q ∈ sw_X12_condition, swS cX12_condition q := fun _ h => absurd h List.not_mem_nil
def na_X12_condition : List (Nat × Nat) := [(861, 1)]
def ca_X12_condition {R' : Type} (F : Nat) : List (Nat × cFn R') := [(861, n_X12_isTask (f_X12_isTask F))]
theorem ca_X12_condition_ok {R' : Type} {q : cL} (hst : q.1.stackTraces = false) {D : Nat} (hD : 2 ≤ D) (F : Nat) : ∀ x ∈ (ca_X12_condition (R' := R') F), 1 ≤ D ∧ ceS q RX12 (D - 1) x.1 x.2 := List.forall_mem_cons.mpr ⟨⟨by omega, n_X12_isTask_ok (k := 287) (lw_good_of (tb_ok 1435 (by decide +kernel)) rfl) (fun a0 M r h => c_X12_isTask hst (by omega) F a0 M r h)⟩, fun _ h => absurd h List.not_mem_nil⟩
def kd_X12_condition_13 (g : Nat → Int32 → Nat → Int32 → cM → Option (Int32 × cM)) : cKf (Int32 × cM) := fun vs st M => (lR vs 0).bind fun x0 => (lI vs 1).bind fun x1 => match st with
  | [.int s1, .ref s0] => g x0 x1 s0 s1 M
  | _ => none
theorem kf_X12_condition_13 {X : cCtx} {o : cO} {r : Int32 × cM} {g : Nat → Int32 → Nat → Int32 → cM → Option (Int32 × cM)} (hg : ∀ x0 x1 s0 s1 M, g x0 x1 s0 s1 M = some r → WX X 2 o 13 [some (.ref x0), some (.int x1)] [.int s1, .ref s0] M) : ∀ vs st M, kd_X12_condition_13 g vs st M = some r → WX X 2 o 13 vs st M := by
  intro vs st M h
  unfold kd_X12_condition_13 at h
  obtain ⟨x0, h0, h⟩ := Option.bind_eq_some_iff.mp h
  obtain ⟨x1, h1, h⟩ := Option.bind_eq_some_iff.mp h
  split at h
  · exact WX_weak (hg _ _ _ _ _ h) rfl ⟨lR_of h0, lI_of h1, trivial⟩
  · cases h
set_option maxRecDepth 20000 in
theorem e_X12_condition_13 (F : Nat) (x0 : Nat) (x1 : Int32) (s0 : Nat) (s1 : Int32) (M : cM) : b_X12_condition_13 F x0 x1 s0 s1 M = run T_X12_condition P_RX12 false 0 (naL na_X12_condition) (caL (ca_X12_condition F)) (lkN th_X12_condition) (lkN sw_X12_condition) krI kxN (spL []) (KL []) 28 13 [some (.ref x0), some (.int x1)] [.int s1, .ref s0] M := rfl
theorem ok_X12_condition_13 {X : cCtx} {D : Nat} {r : Int32 × cM} (G : FX X 2 (eI r) cX12_condition RX12 0 D) {F : Nat} (hca : ∀ x ∈ (ca_X12_condition (R' := Int32 × cM) F), 1 ≤ D ∧ ceS X.1 RX12 (D - 1) x.1 x.2) : ∀ x0 x1 s0 s1 M, f_X12_condition_13 F x0 x1 s0 s1 M = some r → WX X 2 (eI r) 13 [some (.ref x0), some (.int x1)] [.int s1, .ref s0] M := by
  intro x0 x1 s0 s1 M h
  exact seg_ok G P_RX12_ok T_X12_condition_ok hca (fun _ h => absurd h List.not_mem_nil) sw_X12_condition_ok krI_ok (kxN_ok (f := eI)) (fun _ h => absurd h List.not_mem_nil) ((e_X12_condition_13 F x0 x1 s0 s1 M).symm.trans h)
set_option maxRecDepth 20000 in
theorem e_X12_condition_0 (F : Nat) (t13 : Nat → Int32 → Nat → Int32 → cM → Option (Int32 × cM)) (x0 : Nat) (x1 : Int32) (M : cM) : b_X12_condition_0 F t13 x0 x1 M = run T_X12_condition P_RX12 false 0 (naL na_X12_condition) (caL (ca_X12_condition F)) (lkN th_X12_condition) (lkN sw_X12_condition) krI kxN (spL [13]) (KL [(13, kd_X12_condition_13 t13)]) 28 0 [some (.ref x0), some (.int x1)] [] M := rfl
theorem ok_X12_condition_0 {X : cCtx} {D : Nat} {r : Int32 × cM} (G : FX X 2 (eI r) cX12_condition RX12 0 D) {F : Nat} (hca : ∀ x ∈ (ca_X12_condition (R' := Int32 × cM) F), 1 ≤ D ∧ ceS X.1 RX12 (D - 1) x.1 x.2) : ∀ x0 x1 M, f_X12_condition_0 F x0 x1 M = some r → WX X 2 (eI r) 0 [some (.ref x0), some (.int x1)] [] M := by
  intro x0 x1 M h
  exact seg_ok G P_RX12_ok T_X12_condition_ok hca (fun _ h => absurd h List.not_mem_nil) sw_X12_condition_ok krI_ok (kxN_ok (f := eI)) (List.forall_mem_cons.mpr ⟨kf_X12_condition_13 (ok_X12_condition_13 G hca), fun _ h => absurd h List.not_mem_nil⟩) ((e_X12_condition_0 F (f_X12_condition_13 F) x0 x1 M).symm.trans h)
theorem c_X12_condition {q : cL} (hst : q.1.stackTraces = false) {D : Nat} (hD : 2 ≤ D) (F : Nat) (a0 : Nat) (a1 : Int32) (M : cM) (r : Int32 × cM) (h : f_X12_condition F a0 a1 M = some r) : CTx q yX12_condition (.code yX12_condition cX12_condition 2 (some .int)) D [.ref a0, .int a1] M (eI r) ∧ ∃ fs, M[a0]? = some (.inr (10, fs)) := by
  unfold f_X12_condition at h
  split at h
  · next hi => exact ⟨CTx_of (own := RX12) (rk := 0) hst (by decide +kernel) rfl (rfl) (Nat.le_of_ble_eq_true rfl) (fun X hX G => by subst hX; exact ok_X12_condition_0 G (ca_X12_condition_ok hst hD F) a0 a1 M h), isC_of hi⟩
  · cases h
-- PatchbayScriptModel.atomAt(IZII)I
def T_X12_atomAt : List cRow := [(0, .aload_n 0, 1, 0), (1, .iload_n 1, 2, 0), (2, .invokestatic 287, 5, 0), (5, .ifCond .eq 7, 8, 12), (8, .iload_n 3, 9, 0), (9, .ifCond .ge 7, 12, 16), (12, .iconst 1, 13, 0), (13, .goto 18, 16, 31), (16, .iload 4, 18, 0), (18, .iconst 0, 19, 0), (19, .iconst 4, 20, 0), (20, .invokestatic 200, 23, 0), (23, .ifCond .ne 7, 26, 30), (26, .iconst 2, 27, 0), (27, .goto 4, 30, 31), (30, .iconst 0, 31, 0), (31, .putfield 196, 34, 0), (34, .aload_n 0, 35, 0), (35, .getfield 196, 38, 0), (38, .ifCond .le 5, 41, 43), (41, .iconst 0, 42, 0), (42, .ireturn, 43, 0), (43, .iconst 2, 44, 0), (44, .iload_n 1, 45, 0), (45, .imul, 46, 0), (46, .iload_n 2, 47, 0), (47, .ifCond .eq 7, 50, 54), (50, .iconst 1, 51, 0), (51, .goto 4, 54, 55), (54, .iconst 0, 55, 0), (55, .iadd, 56, 0), (56, .istore 5, 58, 0), (58, .aload_n 0, 59, 0), (59, .getfield 73, 62, 0), (62, .iload_n 1, 63, 0), (63, .baload, 64, 0), (64, .ifCond .eq 28, 67, 92), (67, .iload_n 2, 68, 0), (68, .ifCond .eq 13, 71, 81), (71, .aload_n 0, 72, 0), (72, .getfield 77, 75, 0), (75, .iload_n 1, 76, 0), (76, .iaload, 77, 0), (77, .iconst (-1), 78, 0), (78, .if_icmp .eq 14, 81, 92), (81, .iload_n 3, 82, 0), (82, .aload_n 0, 83, 0), (83, .getfield 89, 86, 0), (86, .iload 5, 88, 0), (88, .iaload, 89, 0), (89, .if_icmp .lt 5, 92, 94), (92, .iconst (-1), 93, 0), (93, .ireturn, 94, 0), (94, .iconst 4, 95, 0), (95, .iload 5, 97, 0), (97, .imul, 98, 0), (98, .iload_n 3, 99, 0), (99, .iadd, 100, 0), (100, .istore 6, 102, 0), (102, .iload 4, 104, 0), (104, .lookupswitch 68 #[(0, 28), (4, 36)], 105, 0), (132, .aload_n 0, 133, 0), (133, .getfield 95, 136, 0), (136, .iload 6, 138, 0), (138, .iaload, 139, 0), (139, .ireturn, 140, 0), (140, .aload_n 0, 141, 0), (141, .getfield 95, 144, 0), (144, .iload 6, 146, 0), (146, .iaload, 147, 0), (147, .aload_n 0, 148, 0), (148, .getfield 98, 151, 0), (151, .iload 6, 153, 0), (153, .iaload, 154, 0), (154, .aload_n 0, 155, 0), (155, .getfield 101, 158, 0), (158, .iload 6, 160, 0), (160, .iaload, 161, 0), (161, .aload_n 0, 162, 0), (162, .getfield 104, 165, 0), (165, .iload 6, 167, 0), (167, .iaload, 168, 0), (168, .invokestatic 316, 171, 0), (171, .ireturn, 172, 0), (172, .aload_n 0, 173, 0), (173, .getfield 95, 176, 0), (176, .iload 6, 178, 0), (178, .iaload, 179, 0), (179, .ifCond .ne 36, 182, 215), (182, .iload 4, 184, 0), (184, .aload_n 0, 185, 0), (185, .getfield 98, 188, 0), (188, .iload 6, 190, 0), (190, .iaload, 191, 0), (191, .if_icmp .gt 20, 194, 211), (194, .aload_n 0, 195, 0), (195, .getfield 107, 198, 0), (198, .iconst 4, 199, 0), (199, .iload 6, 201, 0), (201, .imul, 202, 0), (202, .iload 4, 204, 0), (204, .iadd, 205, 0), (205, .iconst 1, 206, 0), (206, .isub, 207, 0), (207, .iaload, 208, 0), (208, .goto 46, 211, 254), (211, .iconst 0, 212, 0), (212, .goto 42, 215, 254), (215, .iload 4, 217, 0), (217, .iconst 1, 218, 0), (218, .if_icmp .ne 13, 221, 231), (221, .aload_n 0, 222, 0), (222, .getfield 98, 225, 0), (225, .iload 6, 227, 0), (227, .iaload, 228, 0), (228, .goto 26, 231, 254), (231, .iload 4, 233, 0), (233, .iconst 2, 234, 0), (234, .if_icmp .ne 13, 237, 247), (237, .aload_n 0, 238, 0), (238, .getfield 101, 241, 0), (241, .iload 6, 243, 0), (243, .iaload, 244, 0), (244, .goto 10, 247, 254), (247, .aload_n 0, 248, 0), (248, .getfield 104, 251, 0), (251, .iload 6, 253, 0), (253, .iaload, 254, 0), (254, .ireturn, 255, 0)]
theorem T_X12_atomAt_ok : T_X12_atomAt.all (rowB cX12_atomAt) = true := by decide +kernel
def th_X12_atomAt : List (Nat × Nat) := []
def sw_X12_atomAt : List (Nat × (List (Int32 × Nat) × Nat)) := [(104, ([(0, 132), (4, 140)], 172))]
theorem sw_X12_atomAt_ok : ∀ q ∈ sw_X12_atomAt, swS cX12_atomAt q := List.forall_mem_cons.mpr ⟨⟨.lookupswitch 68 #[(0, 28), (4, 36)], 28, by decide +kernel⟩, fun _ h => absurd h List.not_mem_nil⟩
def na_X12_atomAt : List (Nat × Nat) := [(861, 1), (600, 3), (948, 4)]
def ca_X12_atomAt {R' : Type} (F : Nat) : List (Nat × cFn R') := [(861, n_X12_isTask (f_X12_isTask F)), (600, n_X12_isIn (f_X12_isIn F)), (948, n_X12_atomWeight (f_X12_atomWeight F))]
theorem ca_X12_atomAt_ok {R' : Type} {q : cL} (hst : q.1.stackTraces = false) {D : Nat} (hD : 2 ≤ D) (F : Nat) : ∀ x ∈ (ca_X12_atomAt (R' := R') F), 1 ≤ D ∧ ceS q RX12 (D - 1) x.1 x.2 := List.forall_mem_cons.mpr ⟨⟨by omega, n_X12_isTask_ok (k := 287) (lw_good_of (tb_ok 1435 (by decide +kernel)) rfl) (fun a0 M r h => c_X12_isTask hst (by omega) F a0 M r h)⟩, List.forall_mem_cons.mpr ⟨⟨by omega, n_X12_isIn_ok (k := 200) (lw_good_of (tb_ok 1341 (by decide +kernel)) rfl) (fun a0 a1 a2 M r h => c_X12_isIn hst (by omega) F a0 a1 a2 M r h)⟩, List.forall_mem_cons.mpr ⟨⟨by omega, n_X12_atomWeight_ok (k := 316) (lw_good_of (tb_ok 1474 (by decide +kernel)) rfl) (fun a0 a1 a2 a3 M r h => c_X12_atomWeight hst (by omega) F a0 a1 a2 a3 M r h)⟩, fun _ h => absurd h List.not_mem_nil⟩⟩⟩
def kd_X12_atomAt_31 (g : Nat → Int32 → Int32 → Int32 → Int32 → Nat → Int32 → cM → Option (Int32 × cM)) : cKf (Int32 × cM) := fun vs st M => (lR vs 0).bind fun x0 => (lI vs 1).bind fun x1 => (lI vs 2).bind fun x2 => (lI vs 3).bind fun x3 => (lI vs 4).bind fun x4 => match st with
  | [.int s1, .ref s0] => g x0 x1 x2 x3 x4 s0 s1 M
  | _ => none
theorem kf_X12_atomAt_31 {X : cCtx} {o : cO} {r : Int32 × cM} {g : Nat → Int32 → Int32 → Int32 → Int32 → Nat → Int32 → cM → Option (Int32 × cM)} (hg : ∀ x0 x1 x2 x3 x4 s0 s1 M, g x0 x1 x2 x3 x4 s0 s1 M = some r → WX X 7 o 31 [some (.ref x0), some (.int x1), some (.int x2), some (.int x3), some (.int x4), none, none] [.int s1, .ref s0] M) : ∀ vs st M, kd_X12_atomAt_31 g vs st M = some r → WX X 7 o 31 vs st M := by
  intro vs st M h
  unfold kd_X12_atomAt_31 at h
  obtain ⟨x0, h0, h⟩ := Option.bind_eq_some_iff.mp h
  obtain ⟨x1, h1, h⟩ := Option.bind_eq_some_iff.mp h
  obtain ⟨x2, h2, h⟩ := Option.bind_eq_some_iff.mp h
  obtain ⟨x3, h3, h⟩ := Option.bind_eq_some_iff.mp h
  obtain ⟨x4, h4, h⟩ := Option.bind_eq_some_iff.mp h
  split at h
  · exact WX_weak (hg _ _ _ _ _ _ _ _ h) rfl ⟨lR_of h0, lI_of h1, lI_of h2, lI_of h3, lI_of h4, trivial⟩
  · cases h
def kd_X12_atomAt_55 (g : Nat → Int32 → Int32 → Int32 → Int32 → Int32 → Int32 → cM → Option (Int32 × cM)) : cKf (Int32 × cM) := fun vs st M => (lR vs 0).bind fun x0 => (lI vs 1).bind fun x1 => (lI vs 2).bind fun x2 => (lI vs 3).bind fun x3 => (lI vs 4).bind fun x4 => match st with
  | [.int s1, .int s0] => g x0 x1 x2 x3 x4 s0 s1 M
  | _ => none
theorem kf_X12_atomAt_55 {X : cCtx} {o : cO} {r : Int32 × cM} {g : Nat → Int32 → Int32 → Int32 → Int32 → Int32 → Int32 → cM → Option (Int32 × cM)} (hg : ∀ x0 x1 x2 x3 x4 s0 s1 M, g x0 x1 x2 x3 x4 s0 s1 M = some r → WX X 7 o 55 [some (.ref x0), some (.int x1), some (.int x2), some (.int x3), some (.int x4), none, none] [.int s1, .int s0] M) : ∀ vs st M, kd_X12_atomAt_55 g vs st M = some r → WX X 7 o 55 vs st M := by
  intro vs st M h
  unfold kd_X12_atomAt_55 at h
  obtain ⟨x0, h0, h⟩ := Option.bind_eq_some_iff.mp h
  obtain ⟨x1, h1, h⟩ := Option.bind_eq_some_iff.mp h
  obtain ⟨x2, h2, h⟩ := Option.bind_eq_some_iff.mp h
  obtain ⟨x3, h3, h⟩ := Option.bind_eq_some_iff.mp h
  obtain ⟨x4, h4, h⟩ := Option.bind_eq_some_iff.mp h
  split at h
  · exact WX_weak (hg _ _ _ _ _ _ _ _ h) rfl ⟨lR_of h0, lI_of h1, lI_of h2, lI_of h3, lI_of h4, trivial⟩
  · cases h
def kd_X12_atomAt_81 (g : Nat → Int32 → Int32 → Int32 → cM → Option (Int32 × cM)) : cKf (Int32 × cM) := fun vs st M => (lR vs 0).bind fun x0 => (lI vs 3).bind fun x3 => (lI vs 4).bind fun x4 => (lI vs 5).bind fun x5 => match st with
  | [] => g x0 x3 x4 x5 M
  | _ => none
theorem kf_X12_atomAt_81 {X : cCtx} {o : cO} {r : Int32 × cM} {g : Nat → Int32 → Int32 → Int32 → cM → Option (Int32 × cM)} (hg : ∀ x0 x3 x4 x5 M, g x0 x3 x4 x5 M = some r → WX X 7 o 81 [some (.ref x0), none, none, some (.int x3), some (.int x4), some (.int x5), none] [] M) : ∀ vs st M, kd_X12_atomAt_81 g vs st M = some r → WX X 7 o 81 vs st M := by
  intro vs st M h
  unfold kd_X12_atomAt_81 at h
  obtain ⟨x0, h0, h⟩ := Option.bind_eq_some_iff.mp h
  obtain ⟨x3, h3, h⟩ := Option.bind_eq_some_iff.mp h
  obtain ⟨x4, h4, h⟩ := Option.bind_eq_some_iff.mp h
  obtain ⟨x5, h5, h⟩ := Option.bind_eq_some_iff.mp h
  split at h
  · exact WX_weak (hg _ _ _ _ _ h) rfl ⟨lR_of h0, lI_of h3, lI_of h4, lI_of h5, trivial⟩
  · cases h
set_option maxRecDepth 20000 in
theorem e_X12_atomAt_81 (F : Nat) (x0 : Nat) (x3 : Int32) (x4 : Int32) (x5 : Int32) (M : cM) : b_X12_atomAt_81 F x0 x3 x4 x5 M = run T_X12_atomAt P_RX12 false 0 (naL na_X12_atomAt) (caL (ca_X12_atomAt F)) (lkN th_X12_atomAt) (lkN sw_X12_atomAt) krI kxN (spL []) (KL []) 132 81 [some (.ref x0), none, none, some (.int x3), some (.int x4), some (.int x5), none] [] M := rfl
theorem ok_X12_atomAt_81 {X : cCtx} {D : Nat} {r : Int32 × cM} (G : FX X 7 (eI r) cX12_atomAt RX12 0 D) {F : Nat} (hca : ∀ x ∈ (ca_X12_atomAt (R' := Int32 × cM) F), 1 ≤ D ∧ ceS X.1 RX12 (D - 1) x.1 x.2) : ∀ x0 x3 x4 x5 M, f_X12_atomAt_81 F x0 x3 x4 x5 M = some r → WX X 7 (eI r) 81 [some (.ref x0), none, none, some (.int x3), some (.int x4), some (.int x5), none] [] M := by
  intro x0 x3 x4 x5 M h
  exact seg_ok G P_RX12_ok T_X12_atomAt_ok hca (fun _ h => absurd h List.not_mem_nil) sw_X12_atomAt_ok krI_ok (kxN_ok (f := eI)) (fun _ h => absurd h List.not_mem_nil) ((e_X12_atomAt_81 F x0 x3 x4 x5 M).symm.trans h)
set_option maxRecDepth 20000 in
theorem e_X12_atomAt_55 (F : Nat) (t81 : Nat → Int32 → Int32 → Int32 → cM → Option (Int32 × cM)) (x0 : Nat) (x1 : Int32) (x2 : Int32) (x3 : Int32) (x4 : Int32) (s0 : Int32) (s1 : Int32) (M : cM) : b_X12_atomAt_55 F t81 x0 x1 x2 x3 x4 s0 s1 M = run T_X12_atomAt P_RX12 false 0 (naL na_X12_atomAt) (caL (ca_X12_atomAt F)) (lkN th_X12_atomAt) (lkN sw_X12_atomAt) krI kxN (spL [81]) (KL [(81, kd_X12_atomAt_81 t81)]) 132 55 [some (.ref x0), some (.int x1), some (.int x2), some (.int x3), some (.int x4), none, none] [.int s1, .int s0] M := rfl
theorem ok_X12_atomAt_55 {X : cCtx} {D : Nat} {r : Int32 × cM} (G : FX X 7 (eI r) cX12_atomAt RX12 0 D) {F : Nat} (hca : ∀ x ∈ (ca_X12_atomAt (R' := Int32 × cM) F), 1 ≤ D ∧ ceS X.1 RX12 (D - 1) x.1 x.2) : ∀ x0 x1 x2 x3 x4 s0 s1 M, f_X12_atomAt_55 F x0 x1 x2 x3 x4 s0 s1 M = some r → WX X 7 (eI r) 55 [some (.ref x0), some (.int x1), some (.int x2), some (.int x3), some (.int x4), none, none] [.int s1, .int s0] M := by
  intro x0 x1 x2 x3 x4 s0 s1 M h
  exact seg_ok G P_RX12_ok T_X12_atomAt_ok hca (fun _ h => absurd h List.not_mem_nil) sw_X12_atomAt_ok krI_ok (kxN_ok (f := eI)) (List.forall_mem_cons.mpr ⟨kf_X12_atomAt_81 (ok_X12_atomAt_81 G hca), fun _ h => absurd h List.not_mem_nil⟩) ((e_X12_atomAt_55 F (f_X12_atomAt_81 F) x0 x1 x2 x3 x4 s0 s1 M).symm.trans h)
set_option maxRecDepth 20000 in
theorem e_X12_atomAt_31 (F : Nat) (t55 : Nat → Int32 → Int32 → Int32 → Int32 → Int32 → Int32 → cM → Option (Int32 × cM)) (x0 : Nat) (x1 : Int32) (x2 : Int32) (x3 : Int32) (x4 : Int32) (s0 : Nat) (s1 : Int32) (M : cM) : b_X12_atomAt_31 F t55 x0 x1 x2 x3 x4 s0 s1 M = run T_X12_atomAt P_RX12 false 0 (naL na_X12_atomAt) (caL (ca_X12_atomAt F)) (lkN th_X12_atomAt) (lkN sw_X12_atomAt) krI kxN (spL [55]) (KL [(55, kd_X12_atomAt_55 t55)]) 132 31 [some (.ref x0), some (.int x1), some (.int x2), some (.int x3), some (.int x4), none, none] [.int s1, .ref s0] M := rfl
theorem ok_X12_atomAt_31 {X : cCtx} {D : Nat} {r : Int32 × cM} (G : FX X 7 (eI r) cX12_atomAt RX12 0 D) {F : Nat} (hca : ∀ x ∈ (ca_X12_atomAt (R' := Int32 × cM) F), 1 ≤ D ∧ ceS X.1 RX12 (D - 1) x.1 x.2) : ∀ x0 x1 x2 x3 x4 s0 s1 M, f_X12_atomAt_31 F x0 x1 x2 x3 x4 s0 s1 M = some r → WX X 7 (eI r) 31 [some (.ref x0), some (.int x1), some (.int x2), some (.int x3), some (.int x4), none, none] [.int s1, .ref s0] M := by
  intro x0 x1 x2 x3 x4 s0 s1 M h
  exact seg_ok G P_RX12_ok T_X12_atomAt_ok hca (fun _ h => absurd h List.not_mem_nil) sw_X12_atomAt_ok krI_ok (kxN_ok (f := eI)) (List.forall_mem_cons.mpr ⟨kf_X12_atomAt_55 (ok_X12_atomAt_55 G hca), fun _ h => absurd h List.not_mem_nil⟩) ((e_X12_atomAt_31 F (f_X12_atomAt_55 F) x0 x1 x2 x3 x4 s0 s1 M).symm.trans h)
set_option maxRecDepth 20000 in
theorem e_X12_atomAt_0 (F : Nat) (t31 : Nat → Int32 → Int32 → Int32 → Int32 → Nat → Int32 → cM → Option (Int32 × cM)) (x0 : Nat) (x1 : Int32) (x2 : Int32) (x3 : Int32) (x4 : Int32) (M : cM) : b_X12_atomAt_0 F t31 x0 x1 x2 x3 x4 M = run T_X12_atomAt P_RX12 false 0 (naL na_X12_atomAt) (caL (ca_X12_atomAt F)) (lkN th_X12_atomAt) (lkN sw_X12_atomAt) krI kxN (spL [31]) (KL [(31, kd_X12_atomAt_31 t31)]) 132 0 [some (.ref x0), some (.int x1), some (.int x2), some (.int x3), some (.int x4), none, none] [] M := rfl
theorem ok_X12_atomAt_0 {X : cCtx} {D : Nat} {r : Int32 × cM} (G : FX X 7 (eI r) cX12_atomAt RX12 0 D) {F : Nat} (hca : ∀ x ∈ (ca_X12_atomAt (R' := Int32 × cM) F), 1 ≤ D ∧ ceS X.1 RX12 (D - 1) x.1 x.2) : ∀ x0 x1 x2 x3 x4 M, f_X12_atomAt_0 F x0 x1 x2 x3 x4 M = some r → WX X 7 (eI r) 0 [some (.ref x0), some (.int x1), some (.int x2), some (.int x3), some (.int x4), none, none] [] M := by
  intro x0 x1 x2 x3 x4 M h
  exact seg_ok G P_RX12_ok T_X12_atomAt_ok hca (fun _ h => absurd h List.not_mem_nil) sw_X12_atomAt_ok krI_ok (kxN_ok (f := eI)) (List.forall_mem_cons.mpr ⟨kf_X12_atomAt_31 (ok_X12_atomAt_31 G hca), fun _ h => absurd h List.not_mem_nil⟩) ((e_X12_atomAt_0 F (f_X12_atomAt_31 F) x0 x1 x2 x3 x4 M).symm.trans h)
theorem c_X12_atomAt {q : cL} (hst : q.1.stackTraces = false) {D : Nat} (hD : 2 ≤ D) (F : Nat) (a0 : Nat) (a1 : Int32) (a2 : Int32) (a3 : Int32) (a4 : Int32) (M : cM) (r : Int32 × cM) (h : f_X12_atomAt F a0 a1 a2 a3 a4 M = some r) : CTx q yX12_atomAt (.code yX12_atomAt cX12_atomAt 7 (some .int)) D [.ref a0, .int a1, .int a2, .int a3, .int a4] M (eI r) ∧ ∃ fs, M[a0]? = some (.inr (10, fs)) := by
  unfold f_X12_atomAt at h
  split at h
  · next hi => exact ⟨CTx_of (own := RX12) (rk := 0) hst (by decide +kernel) rfl (rfl) (Nat.le_of_ble_eq_true rfl) (fun X hX G => by subst hX; exact ok_X12_atomAt_0 G (ca_X12_atomAt_ok hst hD F) a0 a1 a2 a3 a4 M h), isC_of hi⟩
  · cases h
-- PatchbayScriptModel.preview(III)C
def T_X12_preview : List cRow := [(0, .aload_n 0, 1, 0), (1, .iload_n 1, 2, 0), (2, .invokestatic 287, 5, 0), (5, .ifCond .eq 19, 8, 24), (8, .aload_n 0, 9, 0), (9, .iload_n 2, 10, 0), (10, .invokevirtual 281, 13, 0), (13, .ifCond .eq 11, 16, 24), (16, .iload_n 3, 17, 0), (17, .ifCond .lt 7, 20, 24), (20, .iconst 0, 21, 0), (21, .goto 4, 24, 25), (24, .iconst 1, 25, 0), (25, .putfield 196, 28, 0), (28, .aload_n 0, 29, 0), (29, .getfield 196, 32, 0), (32, .ifCond .le 6, 35, 38), (35, .bipush 32, 37, 0), (37, .ireturn, 38, 0), (38, .aload_n 0, 39, 0), (39, .iload_n 2, 40, 0), (40, .invokevirtual 284, 43, 0), (43, .aload_n 0, 44, 0), (44, .getfield 73, 47, 0), (47, .iload_n 1, 48, 0), (48, .baload, 49, 0), (49, .ifCond .eq 19, 52, 68), (52, .aload_n 0, 53, 0), (53, .iconst 2, 54, 0), (54, .iload_n 1, 55, 0), (55, .imul, 56, 0), (56, .aload_n 0, 57, 0), (57, .getfield 77, 60, 0), (60, .iload_n 1, 61, 0), (61, .iaload, 62, 0), (62, .invokevirtual 263, 65, 0), (65, .ifCond .ne 8, 68, 73), (68, .bipush 63, 70, 0), (70, .goto 23, 73, 93), (73, .iload_n 3, 74, 0), (74, .aload_n 0, 75, 0), (75, .getfield 228, 78, 0), (78, .if_icmp .ge 13, 81, 91), (81, .aload_n 0, 82, 0), (82, .getfield 125, 85, 0), (85, .iload_n 3, 86, 0), (86, .iaload, 87, 0), (87, .i2c, 88, 0), (88, .goto 5, 91, 93), (91, .bipush 33, 93, 0), (93, .ireturn, 94, 0)]
theorem T_X12_preview_ok : T_X12_preview.all (rowB cX12_preview) = true := by decide +kernel
def th_X12_preview : List (Nat × Nat) := []
def sw_X12_preview : List (Nat × (List (Int32 × Nat) × Nat)) := []
theorem sw_X12_preview_ok : ∀ q ∈ sw_X12_preview, swS cX12_preview q := fun _ h => absurd h List.not_mem_nil
def na_X12_preview : List (Nat × Nat) := [(861, 1), (844, 2), (853, 2), (790, 3)]
def ca_X12_preview {R' : Type} (F : Nat) : List (Nat × cFn R') := [(861, n_X12_isTask (f_X12_isTask F)), (844, n_X12_isLine (f_X12_isLine F)), (853, n_X12_laysLine (f_X12_laysLine F)), (790, n_X12_makesBy (f_X12_makesBy F))]
theorem ca_X12_preview_ok {R' : Type} {q : cL} (hst : q.1.stackTraces = false) {D : Nat} (hD : 6 ≤ D) (F : Nat) : ∀ x ∈ (ca_X12_preview (R' := R') F), 1 ≤ D ∧ ceS q RX12 (D - 1) x.1 x.2 := List.forall_mem_cons.mpr ⟨⟨by omega, n_X12_isTask_ok (k := 287) (lw_good_of (tb_ok 1435 (by decide +kernel)) rfl) (fun a0 M r h => c_X12_isTask hst (by omega) F a0 M r h)⟩, List.forall_mem_cons.mpr ⟨⟨by omega, n_X12_isLine_ok (k := 281) (lw_good_of (tb_ok 1419 (by decide +kernel)) rfl) (fun a0 a1 M r h => c_X12_isLine hst (by omega) F a0 a1 M r h)⟩, List.forall_mem_cons.mpr ⟨⟨by omega, n_X12_laysLine_ok (k := 284) (lw_good_of (tb_ok 1363 (by decide +kernel)) rfl) (fun a0 a1 M r h => c_X12_laysLine hst (by omega) F a0 a1 M r h)⟩, List.forall_mem_cons.mpr ⟨⟨by omega, n_X12_makesBy_ok (k := 263) (lw_good_of (tb_ok 1378 (by decide +kernel)) rfl) (fun a0 a1 a2 M r h => c_X12_makesBy hst (by omega) F a0 a1 a2 M r h)⟩, fun _ h => absurd h List.not_mem_nil⟩⟩⟩⟩
def kd_X12_preview_25 (g : Nat → Int32 → Int32 → Int32 → Nat → Int32 → cM → Option (Int32 × cM)) : cKf (Int32 × cM) := fun vs st M => (lR vs 0).bind fun x0 => (lI vs 1).bind fun x1 => (lI vs 2).bind fun x2 => (lI vs 3).bind fun x3 => match st with
  | [.int s1, .ref s0] => g x0 x1 x2 x3 s0 s1 M
  | _ => none
theorem kf_X12_preview_25 {X : cCtx} {o : cO} {r : Int32 × cM} {g : Nat → Int32 → Int32 → Int32 → Nat → Int32 → cM → Option (Int32 × cM)} (hg : ∀ x0 x1 x2 x3 s0 s1 M, g x0 x1 x2 x3 s0 s1 M = some r → WX X 4 o 25 [some (.ref x0), some (.int x1), some (.int x2), some (.int x3)] [.int s1, .ref s0] M) : ∀ vs st M, kd_X12_preview_25 g vs st M = some r → WX X 4 o 25 vs st M := by
  intro vs st M h
  unfold kd_X12_preview_25 at h
  obtain ⟨x0, h0, h⟩ := Option.bind_eq_some_iff.mp h
  obtain ⟨x1, h1, h⟩ := Option.bind_eq_some_iff.mp h
  obtain ⟨x2, h2, h⟩ := Option.bind_eq_some_iff.mp h
  obtain ⟨x3, h3, h⟩ := Option.bind_eq_some_iff.mp h
  split at h
  · exact WX_weak (hg _ _ _ _ _ _ _ h) rfl ⟨lR_of h0, lI_of h1, lI_of h2, lI_of h3, trivial⟩
  · cases h
set_option maxRecDepth 20000 in
theorem e_X12_preview_25 (F : Nat) (x0 : Nat) (x1 : Int32) (x2 : Int32) (x3 : Int32) (s0 : Nat) (s1 : Int32) (M : cM) : b_X12_preview_25 F x0 x1 x2 x3 s0 s1 M = run T_X12_preview P_RX12 false 2 (naL na_X12_preview) (caL (ca_X12_preview F)) (lkN th_X12_preview) (lkN sw_X12_preview) krI kxN (spL []) (KL []) 54 25 [some (.ref x0), some (.int x1), some (.int x2), some (.int x3)] [.int s1, .ref s0] M := rfl
theorem ok_X12_preview_25 {X : cCtx} {D : Nat} {r : Int32 × cM} (G : FX X 4 (eI r) cX12_preview RX12 2 D) {F : Nat} (hca : ∀ x ∈ (ca_X12_preview (R' := Int32 × cM) F), 1 ≤ D ∧ ceS X.1 RX12 (D - 1) x.1 x.2) : ∀ x0 x1 x2 x3 s0 s1 M, f_X12_preview_25 F x0 x1 x2 x3 s0 s1 M = some r → WX X 4 (eI r) 25 [some (.ref x0), some (.int x1), some (.int x2), some (.int x3)] [.int s1, .ref s0] M := by
  intro x0 x1 x2 x3 s0 s1 M h
  exact seg_ok G P_RX12_ok T_X12_preview_ok hca (fun _ h => absurd h List.not_mem_nil) sw_X12_preview_ok krI_ok (kxN_ok (f := eI)) (fun _ h => absurd h List.not_mem_nil) ((e_X12_preview_25 F x0 x1 x2 x3 s0 s1 M).symm.trans h)
set_option maxRecDepth 20000 in
theorem e_X12_preview_0 (F : Nat) (t25 : Nat → Int32 → Int32 → Int32 → Nat → Int32 → cM → Option (Int32 × cM)) (x0 : Nat) (x1 : Int32) (x2 : Int32) (x3 : Int32) (M : cM) : b_X12_preview_0 F t25 x0 x1 x2 x3 M = run T_X12_preview P_RX12 false 2 (naL na_X12_preview) (caL (ca_X12_preview F)) (lkN th_X12_preview) (lkN sw_X12_preview) krI kxN (spL [25]) (KL [(25, kd_X12_preview_25 t25)]) 54 0 [some (.ref x0), some (.int x1), some (.int x2), some (.int x3)] [] M := rfl
theorem ok_X12_preview_0 {X : cCtx} {D : Nat} {r : Int32 × cM} (G : FX X 4 (eI r) cX12_preview RX12 2 D) {F : Nat} (hca : ∀ x ∈ (ca_X12_preview (R' := Int32 × cM) F), 1 ≤ D ∧ ceS X.1 RX12 (D - 1) x.1 x.2) : ∀ x0 x1 x2 x3 M, f_X12_preview_0 F x0 x1 x2 x3 M = some r → WX X 4 (eI r) 0 [some (.ref x0), some (.int x1), some (.int x2), some (.int x3)] [] M := by
  intro x0 x1 x2 x3 M h
  exact seg_ok G P_RX12_ok T_X12_preview_ok hca (fun _ h => absurd h List.not_mem_nil) sw_X12_preview_ok krI_ok (kxN_ok (f := eI)) (List.forall_mem_cons.mpr ⟨kf_X12_preview_25 (ok_X12_preview_25 G hca), fun _ h => absurd h List.not_mem_nil⟩) ((e_X12_preview_0 F (f_X12_preview_25 F) x0 x1 x2 x3 M).symm.trans h)
theorem c_X12_preview {q : cL} (hst : q.1.stackTraces = false) {D : Nat} (hD : 6 ≤ D) (F : Nat) (a0 : Nat) (a1 : Int32) (a2 : Int32) (a3 : Int32) (M : cM) (r : Int32 × cM) (h : f_X12_preview F a0 a1 a2 a3 M = some r) : CTx q yX12_preview (.code yX12_preview cX12_preview 4 (some .char)) D [.ref a0, .int a1, .int a2, .int a3] M (eI r) ∧ ∃ fs, M[a0]? = some (.inr (10, fs)) := by
  unfold f_X12_preview at h
  split at h
  · next hi => exact ⟨CTx_of (own := RX12) (rk := 2) hst (by decide +kernel) rfl (rfl) (Nat.le_of_ble_eq_true rfl) (fun X hX G => by subst hX; exact ok_X12_preview_0 G (ca_X12_preview_ok hst hD F) a0 a1 a2 a3 M h), isC_of hi⟩
  · cases h
-- PatchbayScriptModel.run(IIII)I
def T_X12_run : List cRow := [(0, .aload_n 0, 1, 0), (1, .iload_n 1, 2, 0), (2, .invokestatic 287, 5, 0), (5, .ifCond .eq 19, 8, 24), (8, .aload_n 0, 9, 0), (9, .iload_n 2, 10, 0), (10, .invokevirtual 281, 13, 0), (13, .ifCond .eq 11, 16, 24), (16, .aload_n 0, 17, 0), (17, .iload_n 3, 18, 0), (18, .invokevirtual 281, 21, 0), (21, .ifCond .ne 7, 24, 28), (24, .iconst 1, 25, 0), (25, .goto 45, 28, 70), (28, .iload_n 3, 29, 0), (29, .iload_n 2, 30, 0), (30, .if_icmp .lt 13, 33, 43), (33, .iload 4, 35, 0), (35, .iconst 0, 36, 0), (36, .iconst 2, 37, 0), (37, .invokestatic 200, 40, 0), (40, .ifCond .ne 7, 43, 47), (43, .iconst 2, 44, 0), (44, .goto 26, 47, 70), (47, .aload_n 0, 48, 0), (48, .getfield 73, 51, 0), (51, .iload_n 1, 52, 0), (52, .baload, 53, 0), (53, .ifCond .eq 12, 56, 65), (56, .aload_n 0, 57, 0), (57, .getfield 272, 60, 0), (60, .bipush 30, 62, 0), (62, .if_icmp .ne 7, 65, 69), (65, .iconst 3, 66, 0), (66, .goto 4, 69, 70), (69, .iconst 0, 70, 0), (70, .putfield 196, 73, 0), (73, .aload_n 0, 74, 0), (74, .getfield 196, 77, 0), (77, .ifCond .le 5, 80, 82), (80, .iconst 0, 81, 0), (81, .ireturn, 82, 0), (82, .iconst 0, 83, 0), (83, .istore 5, 85, 0), (85, .iconst 0, 86, 0), (86, .istore 6, 88, 0), (88, .aload_n 0, 89, 0), (89, .iload_n 1, 90, 0), (90, .invokevirtual 275, 93, 0), (93, .iload_n 2, 94, 0), (94, .istore 7, 96, 0), (96, .iload 7, 98, 0), (98, .iload_n 3, 99, 0), (99, .if_icmp .gt 93, 102, 192), (102, .iload 6, 104, 0), (104, .ifCond .ne 88, 107, 192), (107, .aload_n 0, 108, 0), (108, .iload_n 1, 109, 0), (109, .iload 7, 111, 0), (111, .invokevirtual 290, 114, 0), (114, .ifCond .ne 72, 117, 186), (117, .aload_n 0, 118, 0), (118, .iload_n 1, 119, 0), (119, .iload 7, 121, 0), (121, .invokevirtual 278, 124, 0), (124, .istore 8, 126, 0), (126, .iload 5, 128, 0), (128, .iload 8, 130, 0), (130, .ifCond .eq 7, 133, 137), (133, .iconst 1, 134, 0), (134, .goto 4, 137, 138), (137, .iconst 0, 138, 0), (138, .iadd, 139, 0), (139, .istore 5, 141, 0), (141, .iload 8, 143, 0), (143, .ifCond .ne 12, 146, 155), (146, .iload 4, 148, 0), (148, .ifCond .ne 7, 151, 155), (151, .iconst 1, 152, 0), (152, .goto 4, 155, 156), (155, .iconst 0, 156, 0), (156, .istore 6, 158, 0), (158, .aload_n 0, 159, 0), (159, .dup, 160, 0), (160, .getfield 400, 163, 0), (163, .iload 8, 165, 0), (165, .ifCond .ne 16, 168, 181), (168, .iload 4, 170, 0), (170, .iconst 2, 171, 0), (171, .if_icmp .ne 10, 174, 181), (174, .iconst 1, 175, 0), (175, .iload 7, 177, 0), (177, .ishl, 178, 0), (178, .goto 4, 181, 182), (181, .iconst 0, 182, 0), (182, .ior, 183, 0), (183, .putfield 400, 186, 0), (186, .iinc 7 1, 189, 0), (189, .goto (-93), 192, 96), (192, .iload 5, 194, 0), (194, .ireturn, 195, 0)]
theorem T_X12_run_ok : T_X12_run.all (rowB cX12_run) = true := by decide +kernel
def th_X12_run : List (Nat × Nat) := []
def sw_X12_run : List (Nat × (List (Int32 × Nat) × Nat)) := []
theorem sw_X12_run_ok : ∀ q ∈ sw_X12_run, swS cX12_run q := fun _ h => absurd h List.not_mem_nil
def na_X12_run : List (Nat × Nat) := [(861, 1), (844, 2), (600, 3), (826, 2), (871, 3), (835, 3)]
def ca_X12_run {R' : Type} (F : Nat) : List (Nat × cFn R') := [(861, n_X12_isTask (f_X12_isTask F)), (844, n_X12_isLine (f_X12_isLine F)), (600, n_X12_isIn (f_X12_isIn F)), (826, n_X12_begins (f_X12_begins F)), (871, n_X12_isShownOn (f_X12_isShownOn F)), (835, n_X12_runsOn (f_X12_runsOn F))]
theorem ca_X12_run_ok {R' : Type} {q : cL} (hst : q.1.stackTraces = false) {D : Nat} (hD : 7 ≤ D) (F : Nat) : ∀ x ∈ (ca_X12_run (R' := R') F), 1 ≤ D ∧ ceS q RX12 (D - 1) x.1 x.2 := List.forall_mem_cons.mpr ⟨⟨by omega, n_X12_isTask_ok (k := 287) (lw_good_of (tb_ok 1435 (by decide +kernel)) rfl) (fun a0 M r h => c_X12_isTask hst (by omega) F a0 M r h)⟩, List.forall_mem_cons.mpr ⟨⟨by omega, n_X12_isLine_ok (k := 281) (lw_good_of (tb_ok 1419 (by decide +kernel)) rfl) (fun a0 a1 M r h => c_X12_isLine hst (by omega) F a0 a1 M r h)⟩, List.forall_mem_cons.mpr ⟨⟨by omega, n_X12_isIn_ok (k := 200) (lw_good_of (tb_ok 1341 (by decide +kernel)) rfl) (fun a0 a1 a2 M r h => c_X12_isIn hst (by omega) F a0 a1 a2 M r h)⟩, List.forall_mem_cons.mpr ⟨⟨by omega, n_X12_begins_ok (k := 275) (lw_good_of (tb_ok 1351 (by decide +kernel)) rfl) (fun a0 a1 M r h => c_X12_begins hst (by omega) F a0 a1 M r h)⟩, List.forall_mem_cons.mpr ⟨⟨by omega, n_X12_isShownOn_ok (k := 290) (lw_good_of (tb_ok 1438 (by decide +kernel)) rfl) (fun a0 a1 a2 M r h => c_X12_isShownOn hst (by omega) F a0 a1 a2 M r h)⟩, List.forall_mem_cons.mpr ⟨⟨by omega, n_X12_runsOn_ok (k := 278) (lw_good_of (tb_ok 1359 (by decide +kernel)) rfl) (fun a0 a1 a2 M r h => c_X12_runsOn hst (by omega) F a0 a1 a2 M r h)⟩, fun _ h => absurd h List.not_mem_nil⟩⟩⟩⟩⟩⟩
def kd_X12_run_70 (g : Nat → Int32 → Int32 → Int32 → Int32 → Nat → Int32 → cM → Option (Int32 × cM)) : cKf (Int32 × cM) := fun vs st M => (lR vs 0).bind fun x0 => (lI vs 1).bind fun x1 => (lI vs 2).bind fun x2 => (lI vs 3).bind fun x3 => (lI vs 4).bind fun x4 => match st with
  | [.int s1, .ref s0] => g x0 x1 x2 x3 x4 s0 s1 M
  | _ => none
theorem kf_X12_run_70 {X : cCtx} {o : cO} {r : Int32 × cM} {g : Nat → Int32 → Int32 → Int32 → Int32 → Nat → Int32 → cM → Option (Int32 × cM)} (hg : ∀ x0 x1 x2 x3 x4 s0 s1 M, g x0 x1 x2 x3 x4 s0 s1 M = some r → WX X 9 o 70 [some (.ref x0), some (.int x1), some (.int x2), some (.int x3), some (.int x4), none, none, none, none] [.int s1, .ref s0] M) : ∀ vs st M, kd_X12_run_70 g vs st M = some r → WX X 9 o 70 vs st M := by
  intro vs st M h
  unfold kd_X12_run_70 at h
  obtain ⟨x0, h0, h⟩ := Option.bind_eq_some_iff.mp h
  obtain ⟨x1, h1, h⟩ := Option.bind_eq_some_iff.mp h
  obtain ⟨x2, h2, h⟩ := Option.bind_eq_some_iff.mp h
  obtain ⟨x3, h3, h⟩ := Option.bind_eq_some_iff.mp h
  obtain ⟨x4, h4, h⟩ := Option.bind_eq_some_iff.mp h
  split at h
  · exact WX_weak (hg _ _ _ _ _ _ _ _ h) rfl ⟨lR_of h0, lI_of h1, lI_of h2, lI_of h3, lI_of h4, trivial⟩
  · cases h
def kd_X12_run_96 (g : Nat → Int32 → Int32 → Int32 → Int32 → Int32 → Int32 → cM → Option (Int32 × cM)) : cKf (Int32 × cM) := fun vs st M => (lR vs 0).bind fun x0 => (lI vs 1).bind fun x1 => (lI vs 3).bind fun x3 => (lI vs 4).bind fun x4 => (lI vs 5).bind fun x5 => (lI vs 6).bind fun x6 => (lI vs 7).bind fun x7 => match st with
  | [] => g x0 x1 x3 x4 x5 x6 x7 M
  | _ => none
theorem kf_X12_run_96 {X : cCtx} {o : cO} {r : Int32 × cM} {g : Nat → Int32 → Int32 → Int32 → Int32 → Int32 → Int32 → cM → Option (Int32 × cM)} (hg : ∀ x0 x1 x3 x4 x5 x6 x7 M, g x0 x1 x3 x4 x5 x6 x7 M = some r → WX X 9 o 96 [some (.ref x0), some (.int x1), none, some (.int x3), some (.int x4), some (.int x5), some (.int x6), some (.int x7), none] [] M) : ∀ vs st M, kd_X12_run_96 g vs st M = some r → WX X 9 o 96 vs st M := by
  intro vs st M h
  unfold kd_X12_run_96 at h
  obtain ⟨x0, h0, h⟩ := Option.bind_eq_some_iff.mp h
  obtain ⟨x1, h1, h⟩ := Option.bind_eq_some_iff.mp h
  obtain ⟨x3, h3, h⟩ := Option.bind_eq_some_iff.mp h
  obtain ⟨x4, h4, h⟩ := Option.bind_eq_some_iff.mp h
  obtain ⟨x5, h5, h⟩ := Option.bind_eq_some_iff.mp h
  obtain ⟨x6, h6, h⟩ := Option.bind_eq_some_iff.mp h
  obtain ⟨x7, h7, h⟩ := Option.bind_eq_some_iff.mp h
  split at h
  · exact WX_weak (hg _ _ _ _ _ _ _ _ h) rfl ⟨lR_of h0, lI_of h1, lI_of h3, lI_of h4, lI_of h5, lI_of h6, lI_of h7, trivial⟩
  · cases h
def kd_X12_run_138 (g : Nat → Int32 → Int32 → Int32 → Int32 → Int32 → Int32 → Int32 → cM → Option (Int32 × cM)) : cKf (Int32 × cM) := fun vs st M => (lR vs 0).bind fun x0 => (lI vs 1).bind fun x1 => (lI vs 3).bind fun x3 => (lI vs 4).bind fun x4 => (lI vs 7).bind fun x7 => (lI vs 8).bind fun x8 => match st with
  | [.int s1, .int s0] => g x0 x1 x3 x4 x7 x8 s0 s1 M
  | _ => none
theorem kf_X12_run_138 {X : cCtx} {o : cO} {r : Int32 × cM} {g : Nat → Int32 → Int32 → Int32 → Int32 → Int32 → Int32 → Int32 → cM → Option (Int32 × cM)} (hg : ∀ x0 x1 x3 x4 x7 x8 s0 s1 M, g x0 x1 x3 x4 x7 x8 s0 s1 M = some r → WX X 9 o 138 [some (.ref x0), some (.int x1), none, some (.int x3), some (.int x4), none, none, some (.int x7), some (.int x8)] [.int s1, .int s0] M) : ∀ vs st M, kd_X12_run_138 g vs st M = some r → WX X 9 o 138 vs st M := by
  intro vs st M h
  unfold kd_X12_run_138 at h
  obtain ⟨x0, h0, h⟩ := Option.bind_eq_some_iff.mp h
  obtain ⟨x1, h1, h⟩ := Option.bind_eq_some_iff.mp h
  obtain ⟨x3, h3, h⟩ := Option.bind_eq_some_iff.mp h
  obtain ⟨x4, h4, h⟩ := Option.bind_eq_some_iff.mp h
  obtain ⟨x7, h7, h⟩ := Option.bind_eq_some_iff.mp h
  obtain ⟨x8, h8, h⟩ := Option.bind_eq_some_iff.mp h
  split at h
  · exact WX_weak (hg _ _ _ _ _ _ _ _ _ h) rfl ⟨lR_of h0, lI_of h1, lI_of h3, lI_of h4, lI_of h7, lI_of h8, trivial⟩
  · cases h
def kd_X12_run_156 (g : Nat → Int32 → Int32 → Int32 → Int32 → Int32 → Int32 → Int32 → cM → Option (Int32 × cM)) : cKf (Int32 × cM) := fun vs st M => (lR vs 0).bind fun x0 => (lI vs 1).bind fun x1 => (lI vs 3).bind fun x3 => (lI vs 4).bind fun x4 => (lI vs 5).bind fun x5 => (lI vs 7).bind fun x7 => (lI vs 8).bind fun x8 => match st with
  | [.int s0] => g x0 x1 x3 x4 x5 x7 x8 s0 M
  | _ => none
theorem kf_X12_run_156 {X : cCtx} {o : cO} {r : Int32 × cM} {g : Nat → Int32 → Int32 → Int32 → Int32 → Int32 → Int32 → Int32 → cM → Option (Int32 × cM)} (hg : ∀ x0 x1 x3 x4 x5 x7 x8 s0 M, g x0 x1 x3 x4 x5 x7 x8 s0 M = some r → WX X 9 o 156 [some (.ref x0), some (.int x1), none, some (.int x3), some (.int x4), some (.int x5), none, some (.int x7), some (.int x8)] [.int s0] M) : ∀ vs st M, kd_X12_run_156 g vs st M = some r → WX X 9 o 156 vs st M := by
  intro vs st M h
  unfold kd_X12_run_156 at h
  obtain ⟨x0, h0, h⟩ := Option.bind_eq_some_iff.mp h
  obtain ⟨x1, h1, h⟩ := Option.bind_eq_some_iff.mp h
  obtain ⟨x3, h3, h⟩ := Option.bind_eq_some_iff.mp h
  obtain ⟨x4, h4, h⟩ := Option.bind_eq_some_iff.mp h
  obtain ⟨x5, h5, h⟩ := Option.bind_eq_some_iff.mp h
  obtain ⟨x7, h7, h⟩ := Option.bind_eq_some_iff.mp h
  obtain ⟨x8, h8, h⟩ := Option.bind_eq_some_iff.mp h
  split at h
  · exact WX_weak (hg _ _ _ _ _ _ _ _ _ h) rfl ⟨lR_of h0, lI_of h1, lI_of h3, lI_of h4, lI_of h5, lI_of h7, lI_of h8, trivial⟩
  · cases h
set_option maxRecDepth 20000 in
theorem e_X12_run_156 (F : Nat) (t96 : Nat → Int32 → Int32 → Int32 → Int32 → Int32 → Int32 → cM → Option (Int32 × cM)) (x0 : Nat) (x1 : Int32) (x3 : Int32) (x4 : Int32) (x5 : Int32) (x7 : Int32) (x8 : Int32) (s0 : Int32) (M : cM) : b_X12_run_156 F t96 x0 x1 x3 x4 x5 x7 x8 s0 M = run T_X12_run P_RX12 false 0 (naL na_X12_run) (caL (ca_X12_run F)) (lkN th_X12_run) (lkN sw_X12_run) krI kxN (spL [96]) (KL [(96, kd_X12_run_96 t96)]) 104 156 [some (.ref x0), some (.int x1), none, some (.int x3), some (.int x4), some (.int x5), none, some (.int x7), some (.int x8)] [.int s0] M := rfl
theorem ok_X12_run_156 {X : cCtx} {D : Nat} {r : Int32 × cM} (G : FX X 9 (eI r) cX12_run RX12 0 D) {F : Nat} (hca : ∀ x ∈ (ca_X12_run (R' := Int32 × cM) F), 1 ≤ D ∧ ceS X.1 RX12 (D - 1) x.1 x.2) (k96 : Nat → Int32 → Int32 → Int32 → Int32 → Int32 → Int32 → cM → Option (Int32 × cM)) (hk96 : ∀ x0 x1 x3 x4 x5 x6 x7 M, k96 x0 x1 x3 x4 x5 x6 x7 M = some r → WX X 9 (eI r) 96 [some (.ref x0), some (.int x1), none, some (.int x3), some (.int x4), some (.int x5), some (.int x6), some (.int x7), none] [] M) : ∀ x0 x1 x3 x4 x5 x7 x8 s0 M, f_X12_run_156 F k96 x0 x1 x3 x4 x5 x7 x8 s0 M = some r → WX X 9 (eI r) 156 [some (.ref x0), some (.int x1), none, some (.int x3), some (.int x4), some (.int x5), none, some (.int x7), some (.int x8)] [.int s0] M := by
  intro x0 x1 x3 x4 x5 x7 x8 s0 M h
  exact seg_ok G P_RX12_ok T_X12_run_ok hca (fun _ h => absurd h List.not_mem_nil) sw_X12_run_ok krI_ok (kxN_ok (f := eI)) (List.forall_mem_cons.mpr ⟨kf_X12_run_96 (hk96), fun _ h => absurd h List.not_mem_nil⟩) ((e_X12_run_156 F (k96) x0 x1 x3 x4 x5 x7 x8 s0 M).symm.trans h)
set_option maxRecDepth 20000 in
theorem e_X12_run_138 (F : Nat) (t156 : Nat → Int32 → Int32 → Int32 → Int32 → Int32 → Int32 → Int32 → cM → Option (Int32 × cM)) (x0 : Nat) (x1 : Int32) (x3 : Int32) (x4 : Int32) (x7 : Int32) (x8 : Int32) (s0 : Int32) (s1 : Int32) (M : cM) : b_X12_run_138 F t156 x0 x1 x3 x4 x7 x8 s0 s1 M = run T_X12_run P_RX12 false 0 (naL na_X12_run) (caL (ca_X12_run F)) (lkN th_X12_run) (lkN sw_X12_run) krI kxN (spL [156]) (KL [(156, kd_X12_run_156 t156)]) 104 138 [some (.ref x0), some (.int x1), none, some (.int x3), some (.int x4), none, none, some (.int x7), some (.int x8)] [.int s1, .int s0] M := rfl
theorem ok_X12_run_138 {X : cCtx} {D : Nat} {r : Int32 × cM} (G : FX X 9 (eI r) cX12_run RX12 0 D) {F : Nat} (hca : ∀ x ∈ (ca_X12_run (R' := Int32 × cM) F), 1 ≤ D ∧ ceS X.1 RX12 (D - 1) x.1 x.2) (k96 : Nat → Int32 → Int32 → Int32 → Int32 → Int32 → Int32 → cM → Option (Int32 × cM)) (hk96 : ∀ x0 x1 x3 x4 x5 x6 x7 M, k96 x0 x1 x3 x4 x5 x6 x7 M = some r → WX X 9 (eI r) 96 [some (.ref x0), some (.int x1), none, some (.int x3), some (.int x4), some (.int x5), some (.int x6), some (.int x7), none] [] M) : ∀ x0 x1 x3 x4 x7 x8 s0 s1 M, f_X12_run_138 F k96 x0 x1 x3 x4 x7 x8 s0 s1 M = some r → WX X 9 (eI r) 138 [some (.ref x0), some (.int x1), none, some (.int x3), some (.int x4), none, none, some (.int x7), some (.int x8)] [.int s1, .int s0] M := by
  intro x0 x1 x3 x4 x7 x8 s0 s1 M h
  exact seg_ok G P_RX12_ok T_X12_run_ok hca (fun _ h => absurd h List.not_mem_nil) sw_X12_run_ok krI_ok (kxN_ok (f := eI)) (List.forall_mem_cons.mpr ⟨kf_X12_run_156 (ok_X12_run_156 G hca k96 hk96), fun _ h => absurd h List.not_mem_nil⟩) ((e_X12_run_138 F (f_X12_run_156 F k96) x0 x1 x3 x4 x7 x8 s0 s1 M).symm.trans h)
set_option maxRecDepth 20000 in
theorem e_X12_run_96 (F : Nat) (t96 : Nat → Int32 → Int32 → Int32 → Int32 → Int32 → Int32 → cM → Option (Int32 × cM)) (t138 : Nat → Int32 → Int32 → Int32 → Int32 → Int32 → Int32 → Int32 → cM → Option (Int32 × cM)) (x0 : Nat) (x1 : Int32) (x3 : Int32) (x4 : Int32) (x5 : Int32) (x6 : Int32) (x7 : Int32) (M : cM) : b_X12_run_96 F t96 t138 x0 x1 x3 x4 x5 x6 x7 M = run T_X12_run P_RX12 false 0 (naL na_X12_run) (caL (ca_X12_run F)) (lkN th_X12_run) (lkN sw_X12_run) krI kxN (spL [96, 138]) (KL [(96, kd_X12_run_96 t96), (138, kd_X12_run_138 t138)]) 104 96 [some (.ref x0), some (.int x1), none, some (.int x3), some (.int x4), some (.int x5), some (.int x6), some (.int x7), none] [] M := rfl
theorem ok_X12_run_96 {X : cCtx} {D : Nat} {r : Int32 × cM} (G : FX X 9 (eI r) cX12_run RX12 0 D) {F : Nat} (hca : ∀ x ∈ (ca_X12_run (R' := Int32 × cM) F), 1 ≤ D ∧ ceS X.1 RX12 (D - 1) x.1 x.2) (n : Nat) : ∀ x0 x1 x3 x4 x5 x6 x7 M, f_X12_run_96 F n x0 x1 x3 x4 x5 x6 x7 M = some r → WX X 9 (eI r) 96 [some (.ref x0), some (.int x1), none, some (.int x3), some (.int x4), some (.int x5), some (.int x6), some (.int x7), none] [] M := by
  induction n with
  | zero => intro x0 x1 x3 x4 x5 x6 x7 M h; cases h
  | succ n ih =>
    intro x0 x1 x3 x4 x5 x6 x7 M h
    exact seg_ok G P_RX12_ok T_X12_run_ok hca (fun _ h => absurd h List.not_mem_nil) sw_X12_run_ok krI_ok (kxN_ok (f := eI)) (List.forall_mem_cons.mpr ⟨kf_X12_run_96 (ih), List.forall_mem_cons.mpr ⟨kf_X12_run_138 (ok_X12_run_138 G hca (f_X12_run_96 F n) ih), fun _ h => absurd h List.not_mem_nil⟩⟩) ((e_X12_run_96 F (f_X12_run_96 F n) (f_X12_run_138 F (f_X12_run_96 F n)) x0 x1 x3 x4 x5 x6 x7 M).symm.trans h)
set_option maxRecDepth 20000 in
theorem e_X12_run_70 (F : Nat) (t96 : Nat → Int32 → Int32 → Int32 → Int32 → Int32 → Int32 → cM → Option (Int32 × cM)) (x0 : Nat) (x1 : Int32) (x2 : Int32) (x3 : Int32) (x4 : Int32) (s0 : Nat) (s1 : Int32) (M : cM) : b_X12_run_70 F t96 x0 x1 x2 x3 x4 s0 s1 M = run T_X12_run P_RX12 false 0 (naL na_X12_run) (caL (ca_X12_run F)) (lkN th_X12_run) (lkN sw_X12_run) krI kxN (spL [96]) (KL [(96, kd_X12_run_96 t96)]) 104 70 [some (.ref x0), some (.int x1), some (.int x2), some (.int x3), some (.int x4), none, none, none, none] [.int s1, .ref s0] M := rfl
theorem ok_X12_run_70 {X : cCtx} {D : Nat} {r : Int32 × cM} (G : FX X 9 (eI r) cX12_run RX12 0 D) {F : Nat} (hca : ∀ x ∈ (ca_X12_run (R' := Int32 × cM) F), 1 ≤ D ∧ ceS X.1 RX12 (D - 1) x.1 x.2) : ∀ x0 x1 x2 x3 x4 s0 s1 M, f_X12_run_70 F x0 x1 x2 x3 x4 s0 s1 M = some r → WX X 9 (eI r) 70 [some (.ref x0), some (.int x1), some (.int x2), some (.int x3), some (.int x4), none, none, none, none] [.int s1, .ref s0] M := by
  intro x0 x1 x2 x3 x4 s0 s1 M h
  exact seg_ok G P_RX12_ok T_X12_run_ok hca (fun _ h => absurd h List.not_mem_nil) sw_X12_run_ok krI_ok (kxN_ok (f := eI)) (List.forall_mem_cons.mpr ⟨kf_X12_run_96 (ok_X12_run_96 G hca F), fun _ h => absurd h List.not_mem_nil⟩) ((e_X12_run_70 F (f_X12_run_96 F F) x0 x1 x2 x3 x4 s0 s1 M).symm.trans h)
set_option maxRecDepth 20000 in
theorem e_X12_run_0 (F : Nat) (t70 : Nat → Int32 → Int32 → Int32 → Int32 → Nat → Int32 → cM → Option (Int32 × cM)) (x0 : Nat) (x1 : Int32) (x2 : Int32) (x3 : Int32) (x4 : Int32) (M : cM) : b_X12_run_0 F t70 x0 x1 x2 x3 x4 M = run T_X12_run P_RX12 false 0 (naL na_X12_run) (caL (ca_X12_run F)) (lkN th_X12_run) (lkN sw_X12_run) krI kxN (spL [70]) (KL [(70, kd_X12_run_70 t70)]) 104 0 [some (.ref x0), some (.int x1), some (.int x2), some (.int x3), some (.int x4), none, none, none, none] [] M := rfl
theorem ok_X12_run_0 {X : cCtx} {D : Nat} {r : Int32 × cM} (G : FX X 9 (eI r) cX12_run RX12 0 D) {F : Nat} (hca : ∀ x ∈ (ca_X12_run (R' := Int32 × cM) F), 1 ≤ D ∧ ceS X.1 RX12 (D - 1) x.1 x.2) : ∀ x0 x1 x2 x3 x4 M, f_X12_run_0 F x0 x1 x2 x3 x4 M = some r → WX X 9 (eI r) 0 [some (.ref x0), some (.int x1), some (.int x2), some (.int x3), some (.int x4), none, none, none, none] [] M := by
  intro x0 x1 x2 x3 x4 M h
  exact seg_ok G P_RX12_ok T_X12_run_ok hca (fun _ h => absurd h List.not_mem_nil) sw_X12_run_ok krI_ok (kxN_ok (f := eI)) (List.forall_mem_cons.mpr ⟨kf_X12_run_70 (ok_X12_run_70 G hca), fun _ h => absurd h List.not_mem_nil⟩) ((e_X12_run_0 F (f_X12_run_70 F) x0 x1 x2 x3 x4 M).symm.trans h)
theorem c_X12_run {q : cL} (hst : q.1.stackTraces = false) {D : Nat} (hD : 7 ≤ D) (F : Nat) (a0 : Nat) (a1 : Int32) (a2 : Int32) (a3 : Int32) (a4 : Int32) (M : cM) (r : Int32 × cM) (h : f_X12_run F a0 a1 a2 a3 a4 M = some r) : CTx q yX12_run (.code yX12_run cX12_run 9 (some .int)) D [.ref a0, .int a1, .int a2, .int a3, .int a4] M (eI r) ∧ ∃ fs, M[a0]? = some (.inr (10, fs)) := by
  unfold f_X12_run at h
  split at h
  · next hi => exact ⟨CTx_of (own := RX12) (rk := 0) hst (by decide +kernel) rfl (rfl) (Nat.le_of_ble_eq_true rfl) (fun X hX G => by subst hX; exact ok_X12_run_0 G (ca_X12_run_ok hst hD F) a0 a1 a2 a3 a4 M h), isC_of hi⟩
  · cases h
-- PatchbayScriptModel.runs()I
def T_X12_runs : List cRow := [(0, .aload_n 0, 1, 0), (1, .iconst 0, 2, 0), (2, .putfield 196, 5, 0), (5, .aload_n 0, 6, 0), (6, .getfield 272, 9, 0), (9, .ireturn, 10, 0)]
theorem T_X12_runs_ok : T_X12_runs.all (rowB cX12_runs) = true := by decide +kernel
def th_X12_runs : List (Nat × Nat) := []
def sw_X12_runs : List (Nat × (List (Int32 × Nat) × Nat)) := []
theorem sw_X12_runs_ok : ∀ q ∈ sw_X12_runs, swS cX12_runs q := fun _ h => absurd h List.not_mem_nil
def na_X12_runs : List (Nat × Nat) := []
def ca_X12_runs {R' : Type} (F : Nat) : List (Nat × cFn R') := []
theorem ca_X12_runs_ok {R' : Type} {q : cL} (hst : q.1.stackTraces = false) {D : Nat} (hD : 0 ≤ D) (F : Nat) : ∀ x ∈ (ca_X12_runs (R' := R') F), 1 ≤ D ∧ ceS q RX12 (D - 1) x.1 x.2 := fun _ h => absurd h List.not_mem_nil
set_option maxRecDepth 20000 in
theorem e_X12_runs_0 (F : Nat) (x0 : Nat) (M : cM) : b_X12_runs_0 F x0 M = run T_X12_runs P_RX12 false 0 (naL na_X12_runs) (caL (ca_X12_runs F)) (lkN th_X12_runs) (lkN sw_X12_runs) krI kxN (spL []) (KL []) 9 0 [some (.ref x0)] [] M := rfl
theorem ok_X12_runs_0 {X : cCtx} {D : Nat} {r : Int32 × cM} (G : FX X 1 (eI r) cX12_runs RX12 0 D) {F : Nat} (hca : ∀ x ∈ (ca_X12_runs (R' := Int32 × cM) F), 1 ≤ D ∧ ceS X.1 RX12 (D - 1) x.1 x.2) : ∀ x0 M, f_X12_runs_0 F x0 M = some r → WX X 1 (eI r) 0 [some (.ref x0)] [] M := by
  intro x0 M h
  exact seg_ok G P_RX12_ok T_X12_runs_ok hca (fun _ h => absurd h List.not_mem_nil) sw_X12_runs_ok krI_ok (kxN_ok (f := eI)) (fun _ h => absurd h List.not_mem_nil) ((e_X12_runs_0 F x0 M).symm.trans h)
theorem c_X12_runs {q : cL} (hst : q.1.stackTraces = false) {D : Nat} (hD : 0 ≤ D) (F : Nat) (a0 : Nat) (M : cM) (r : Int32 × cM) (h : f_X12_runs F a0 M = some r) : CTx q yX12_runs (.code yX12_runs cX12_runs 1 (some .int)) D [.ref a0] M (eI r) ∧ ∃ fs, M[a0]? = some (.inr (10, fs)) := by
  unfold f_X12_runs at h
  split at h
  · next hi => exact ⟨CTx_of (own := RX12) (rk := 0) hst (by decide +kernel) rfl (rfl) (Nat.le_of_ble_eq_true rfl) (fun X hX G => by subst hX; exact ok_X12_runs_0 G (ca_X12_runs_ok hst hD F) a0 M h), isC_of hi⟩
  · cases h
-- PatchbayScriptModel.undo(I)Z
def T_X12_undo : List cRow := [(0, .aload_n 0, 1, 0), (1, .iload_n 1, 2, 0), (2, .iconst 0, 3, 0), (3, .aload_n 0, 4, 0), (4, .getfield 272, 7, 0), (7, .iconst 1, 8, 0), (8, .isub, 9, 0), (9, .invokestatic 200, 12, 0), (12, .ifCond .eq 7, 15, 19), (15, .iconst 0, 16, 0), (16, .goto 4, 19, 20), (19, .iconst 1, 20, 0), (20, .putfield 196, 23, 0), (23, .aload_n 0, 24, 0), (24, .getfield 196, 27, 0), (27, .ifCond .le 5, 30, 32), (30, .iconst 0, 31, 0), (31, .ireturn, 32, 0), (32, .aload_n 0, 33, 0), (33, .getfield 83, 36, 0), (36, .iload_n 1, 37, 0), (37, .aload_n 0, 38, 0), (38, .getfield 83, 41, 0), (41, .iload_n 1, 42, 0), (42, .baload, 43, 0), (43, .ifCond .ne 7, 46, 50), (46, .iconst 1, 47, 0), (47, .goto 4, 50, 51), (50, .iconst 0, 51, 0), (51, .bastore, 52, 0), (52, .aload_n 0, 53, 0), (53, .getfield 83, 56, 0), (56, .iload_n 1, 57, 0), (57, .baload, 58, 0), (58, .ifCond .ne 7, 61, 65), (61, .iconst 1, 62, 0), (62, .goto 4, 65, 66), (65, .iconst 0, 66, 0), (66, .ireturn, 67, 0)]
theorem T_X12_undo_ok : T_X12_undo.all (rowB cX12_undo) = true := by decide +kernel
def th_X12_undo : List (Nat × Nat) := []
def sw_X12_undo : List (Nat × (List (Int32 × Nat) × Nat)) := []
theorem sw_X12_undo_ok : ∀ q ∈ sw_X12_undo, swS cX12_undo q := fun _ h => absurd h List.not_mem_nil
def na_X12_undo : List (Nat × Nat) := [(600, 3)]
def ca_X12_undo {R' : Type} (F : Nat) : List (Nat × cFn R') := [(600, n_X12_isIn (f_X12_isIn F))]
theorem ca_X12_undo_ok {R' : Type} {q : cL} (hst : q.1.stackTraces = false) {D : Nat} (hD : 1 ≤ D) (F : Nat) : ∀ x ∈ (ca_X12_undo (R' := R') F), 1 ≤ D ∧ ceS q RX12 (D - 1) x.1 x.2 := List.forall_mem_cons.mpr ⟨⟨by omega, n_X12_isIn_ok (k := 200) (lw_good_of (tb_ok 1341 (by decide +kernel)) rfl) (fun a0 a1 a2 M r h => c_X12_isIn hst (by omega) F a0 a1 a2 M r h)⟩, fun _ h => absurd h List.not_mem_nil⟩
def kd_X12_undo_20 (g : Nat → Int32 → Nat → Int32 → cM → Option (Int32 × cM)) : cKf (Int32 × cM) := fun vs st M => (lR vs 0).bind fun x0 => (lI vs 1).bind fun x1 => match st with
  | [.int s1, .ref s0] => g x0 x1 s0 s1 M
  | _ => none
theorem kf_X12_undo_20 {X : cCtx} {o : cO} {r : Int32 × cM} {g : Nat → Int32 → Nat → Int32 → cM → Option (Int32 × cM)} (hg : ∀ x0 x1 s0 s1 M, g x0 x1 s0 s1 M = some r → WX X 2 o 20 [some (.ref x0), some (.int x1)] [.int s1, .ref s0] M) : ∀ vs st M, kd_X12_undo_20 g vs st M = some r → WX X 2 o 20 vs st M := by
  intro vs st M h
  unfold kd_X12_undo_20 at h
  obtain ⟨x0, h0, h⟩ := Option.bind_eq_some_iff.mp h
  obtain ⟨x1, h1, h⟩ := Option.bind_eq_some_iff.mp h
  split at h
  · exact WX_weak (hg _ _ _ _ _ h) rfl ⟨lR_of h0, lI_of h1, trivial⟩
  · cases h
def kd_X12_undo_51 (g : Nat → Int32 → Nat → Int32 → Int32 → cM → Option (Int32 × cM)) : cKf (Int32 × cM) := fun vs st M => (lR vs 0).bind fun x0 => (lI vs 1).bind fun x1 => match st with
  | [.int s2, .int s1, .ref s0] => g x0 x1 s0 s1 s2 M
  | _ => none
theorem kf_X12_undo_51 {X : cCtx} {o : cO} {r : Int32 × cM} {g : Nat → Int32 → Nat → Int32 → Int32 → cM → Option (Int32 × cM)} (hg : ∀ x0 x1 s0 s1 s2 M, g x0 x1 s0 s1 s2 M = some r → WX X 2 o 51 [some (.ref x0), some (.int x1)] [.int s2, .int s1, .ref s0] M) : ∀ vs st M, kd_X12_undo_51 g vs st M = some r → WX X 2 o 51 vs st M := by
  intro vs st M h
  unfold kd_X12_undo_51 at h
  obtain ⟨x0, h0, h⟩ := Option.bind_eq_some_iff.mp h
  obtain ⟨x1, h1, h⟩ := Option.bind_eq_some_iff.mp h
  split at h
  · exact WX_weak (hg _ _ _ _ _ _ h) rfl ⟨lR_of h0, lI_of h1, trivial⟩
  · cases h
set_option maxRecDepth 20000 in
theorem e_X12_undo_51 (F : Nat) (x0 : Nat) (x1 : Int32) (s0 : Nat) (s1 : Int32) (s2 : Int32) (M : cM) : b_X12_undo_51 F x0 x1 s0 s1 s2 M = run T_X12_undo P_RX12 false 1 (naL na_X12_undo) (caL (ca_X12_undo F)) (lkN th_X12_undo) (lkN sw_X12_undo) krI kxN (spL []) (KL []) 42 51 [some (.ref x0), some (.int x1)] [.int s2, .int s1, .ref s0] M := rfl
theorem ok_X12_undo_51 {X : cCtx} {D : Nat} {r : Int32 × cM} (G : FX X 2 (eI r) cX12_undo RX12 1 D) {F : Nat} (hca : ∀ x ∈ (ca_X12_undo (R' := Int32 × cM) F), 1 ≤ D ∧ ceS X.1 RX12 (D - 1) x.1 x.2) : ∀ x0 x1 s0 s1 s2 M, f_X12_undo_51 F x0 x1 s0 s1 s2 M = some r → WX X 2 (eI r) 51 [some (.ref x0), some (.int x1)] [.int s2, .int s1, .ref s0] M := by
  intro x0 x1 s0 s1 s2 M h
  exact seg_ok G P_RX12_ok T_X12_undo_ok hca (fun _ h => absurd h List.not_mem_nil) sw_X12_undo_ok krI_ok (kxN_ok (f := eI)) (fun _ h => absurd h List.not_mem_nil) ((e_X12_undo_51 F x0 x1 s0 s1 s2 M).symm.trans h)
set_option maxRecDepth 20000 in
theorem e_X12_undo_20 (F : Nat) (t51 : Nat → Int32 → Nat → Int32 → Int32 → cM → Option (Int32 × cM)) (x0 : Nat) (x1 : Int32) (s0 : Nat) (s1 : Int32) (M : cM) : b_X12_undo_20 F t51 x0 x1 s0 s1 M = run T_X12_undo P_RX12 false 1 (naL na_X12_undo) (caL (ca_X12_undo F)) (lkN th_X12_undo) (lkN sw_X12_undo) krI kxN (spL [51]) (KL [(51, kd_X12_undo_51 t51)]) 42 20 [some (.ref x0), some (.int x1)] [.int s1, .ref s0] M := rfl
theorem ok_X12_undo_20 {X : cCtx} {D : Nat} {r : Int32 × cM} (G : FX X 2 (eI r) cX12_undo RX12 1 D) {F : Nat} (hca : ∀ x ∈ (ca_X12_undo (R' := Int32 × cM) F), 1 ≤ D ∧ ceS X.1 RX12 (D - 1) x.1 x.2) : ∀ x0 x1 s0 s1 M, f_X12_undo_20 F x0 x1 s0 s1 M = some r → WX X 2 (eI r) 20 [some (.ref x0), some (.int x1)] [.int s1, .ref s0] M := by
  intro x0 x1 s0 s1 M h
  exact seg_ok G P_RX12_ok T_X12_undo_ok hca (fun _ h => absurd h List.not_mem_nil) sw_X12_undo_ok krI_ok (kxN_ok (f := eI)) (List.forall_mem_cons.mpr ⟨kf_X12_undo_51 (ok_X12_undo_51 G hca), fun _ h => absurd h List.not_mem_nil⟩) ((e_X12_undo_20 F (f_X12_undo_51 F) x0 x1 s0 s1 M).symm.trans h)
set_option maxRecDepth 20000 in
theorem e_X12_undo_0 (F : Nat) (t20 : Nat → Int32 → Nat → Int32 → cM → Option (Int32 × cM)) (x0 : Nat) (x1 : Int32) (M : cM) : b_X12_undo_0 F t20 x0 x1 M = run T_X12_undo P_RX12 false 1 (naL na_X12_undo) (caL (ca_X12_undo F)) (lkN th_X12_undo) (lkN sw_X12_undo) krI kxN (spL [20]) (KL [(20, kd_X12_undo_20 t20)]) 42 0 [some (.ref x0), some (.int x1)] [] M := rfl
theorem ok_X12_undo_0 {X : cCtx} {D : Nat} {r : Int32 × cM} (G : FX X 2 (eI r) cX12_undo RX12 1 D) {F : Nat} (hca : ∀ x ∈ (ca_X12_undo (R' := Int32 × cM) F), 1 ≤ D ∧ ceS X.1 RX12 (D - 1) x.1 x.2) : ∀ x0 x1 M, f_X12_undo_0 F x0 x1 M = some r → WX X 2 (eI r) 0 [some (.ref x0), some (.int x1)] [] M := by
  intro x0 x1 M h
  exact seg_ok G P_RX12_ok T_X12_undo_ok hca (fun _ h => absurd h List.not_mem_nil) sw_X12_undo_ok krI_ok (kxN_ok (f := eI)) (List.forall_mem_cons.mpr ⟨kf_X12_undo_20 (ok_X12_undo_20 G hca), fun _ h => absurd h List.not_mem_nil⟩) ((e_X12_undo_0 F (f_X12_undo_20 F) x0 x1 M).symm.trans h)
theorem c_X12_undo {q : cL} (hst : q.1.stackTraces = false) {D : Nat} (hD : 1 ≤ D) (F : Nat) (a0 : Nat) (a1 : Int32) (M : cM) (r : Int32 × cM) (h : f_X12_undo F a0 a1 M = some r) : CTx q yX12_undo (.code yX12_undo cX12_undo 2 (some .boolean)) D [.ref a0, .int a1] M (eI r) ∧ ∃ fs, M[a0]? = some (.inr (10, fs)) := by
  unfold f_X12_undo at h
  split at h
  · next hi => exact ⟨CTx_of (own := RX12) (rk := 1) hst (by decide +kernel) rfl (rfl) (Nat.le_of_ble_eq_true rfl) (fun X hX G => by subst hX; exact ok_X12_undo_0 G (ca_X12_undo_ok hst hD F) a0 a1 M h), isC_of hi⟩
  · cases h
-- PatchbayScriptModel.stand(IZ)Z
def T_X12_stand : List cRow := [(0, .aload_n 0, 1, 0), (1, .iload_n 1, 2, 0), (2, .invokestatic 287, 5, 0), (5, .ifCond .ne 7, 8, 12), (8, .iconst 1, 9, 0), (9, .goto 21, 12, 30), (12, .iload_n 2, 13, 0), (13, .ifCond .eq 16, 16, 29), (16, .aload_n 0, 17, 0), (17, .getfield 73, 20, 0), (20, .iload_n 1, 21, 0), (21, .baload, 22, 0), (22, .ifCond .ne 7, 25, 29), (25, .iconst 2, 26, 0), (26, .goto 4, 29, 30), (29, .iconst 0, 30, 0), (30, .putfield 196, 33, 0), (33, .aload_n 0, 34, 0), (34, .getfield 196, 37, 0), (37, .ifCond .le 5, 40, 42), (40, .iconst 0, 41, 0), (41, .ireturn, 42, 0), (42, .aload_n 0, 43, 0), (43, .getfield 80, 46, 0), (46, .iload_n 1, 47, 0), (47, .baload, 48, 0), (48, .istore_n 3, 49, 0), (49, .aload_n 0, 50, 0), (50, .getfield 80, 53, 0), (53, .iload_n 1, 54, 0), (54, .iload_n 2, 55, 0), (55, .bastore, 56, 0), (56, .iload_n 3, 57, 0), (57, .ireturn, 58, 0)]
theorem T_X12_stand_ok : T_X12_stand.all (rowB cX12_stand) = true := by decide +kernel
def th_X12_stand : List (Nat × Nat) := []
def sw_X12_stand : List (Nat × (List (Int32 × Nat) × Nat)) := []
theorem sw_X12_stand_ok : ∀ q ∈ sw_X12_stand, swS cX12_stand q := fun _ h => absurd h List.not_mem_nil
def na_X12_stand : List (Nat × Nat) := [(861, 1)]
def ca_X12_stand {R' : Type} (F : Nat) : List (Nat × cFn R') := [(861, n_X12_isTask (f_X12_isTask F))]
theorem ca_X12_stand_ok {R' : Type} {q : cL} (hst : q.1.stackTraces = false) {D : Nat} (hD : 2 ≤ D) (F : Nat) : ∀ x ∈ (ca_X12_stand (R' := R') F), 1 ≤ D ∧ ceS q RX12 (D - 1) x.1 x.2 := List.forall_mem_cons.mpr ⟨⟨by omega, n_X12_isTask_ok (k := 287) (lw_good_of (tb_ok 1435 (by decide +kernel)) rfl) (fun a0 M r h => c_X12_isTask hst (by omega) F a0 M r h)⟩, fun _ h => absurd h List.not_mem_nil⟩
def kd_X12_stand_30 (g : Nat → Int32 → Int32 → Nat → Int32 → cM → Option (Int32 × cM)) : cKf (Int32 × cM) := fun vs st M => (lR vs 0).bind fun x0 => (lI vs 1).bind fun x1 => (lI vs 2).bind fun x2 => match st with
  | [.int s1, .ref s0] => g x0 x1 x2 s0 s1 M
  | _ => none
theorem kf_X12_stand_30 {X : cCtx} {o : cO} {r : Int32 × cM} {g : Nat → Int32 → Int32 → Nat → Int32 → cM → Option (Int32 × cM)} (hg : ∀ x0 x1 x2 s0 s1 M, g x0 x1 x2 s0 s1 M = some r → WX X 4 o 30 [some (.ref x0), some (.int x1), some (.int x2), none] [.int s1, .ref s0] M) : ∀ vs st M, kd_X12_stand_30 g vs st M = some r → WX X 4 o 30 vs st M := by
  intro vs st M h
  unfold kd_X12_stand_30 at h
  obtain ⟨x0, h0, h⟩ := Option.bind_eq_some_iff.mp h
  obtain ⟨x1, h1, h⟩ := Option.bind_eq_some_iff.mp h
  obtain ⟨x2, h2, h⟩ := Option.bind_eq_some_iff.mp h
  split at h
  · exact WX_weak (hg _ _ _ _ _ _ h) rfl ⟨lR_of h0, lI_of h1, lI_of h2, trivial⟩
  · cases h
set_option maxRecDepth 20000 in
theorem e_X12_stand_30 (F : Nat) (x0 : Nat) (x1 : Int32) (x2 : Int32) (s0 : Nat) (s1 : Int32) (M : cM) : b_X12_stand_30 F x0 x1 x2 s0 s1 M = run T_X12_stand P_RX12 false 1 (naL na_X12_stand) (caL (ca_X12_stand F)) (lkN th_X12_stand) (lkN sw_X12_stand) krI kxN (spL []) (KL []) 37 30 [some (.ref x0), some (.int x1), some (.int x2), none] [.int s1, .ref s0] M := rfl
theorem ok_X12_stand_30 {X : cCtx} {D : Nat} {r : Int32 × cM} (G : FX X 4 (eI r) cX12_stand RX12 1 D) {F : Nat} (hca : ∀ x ∈ (ca_X12_stand (R' := Int32 × cM) F), 1 ≤ D ∧ ceS X.1 RX12 (D - 1) x.1 x.2) : ∀ x0 x1 x2 s0 s1 M, f_X12_stand_30 F x0 x1 x2 s0 s1 M = some r → WX X 4 (eI r) 30 [some (.ref x0), some (.int x1), some (.int x2), none] [.int s1, .ref s0] M := by
  intro x0 x1 x2 s0 s1 M h
  exact seg_ok G P_RX12_ok T_X12_stand_ok hca (fun _ h => absurd h List.not_mem_nil) sw_X12_stand_ok krI_ok (kxN_ok (f := eI)) (fun _ h => absurd h List.not_mem_nil) ((e_X12_stand_30 F x0 x1 x2 s0 s1 M).symm.trans h)
set_option maxRecDepth 20000 in
theorem e_X12_stand_0 (F : Nat) (t30 : Nat → Int32 → Int32 → Nat → Int32 → cM → Option (Int32 × cM)) (x0 : Nat) (x1 : Int32) (x2 : Int32) (M : cM) : b_X12_stand_0 F t30 x0 x1 x2 M = run T_X12_stand P_RX12 false 1 (naL na_X12_stand) (caL (ca_X12_stand F)) (lkN th_X12_stand) (lkN sw_X12_stand) krI kxN (spL [30]) (KL [(30, kd_X12_stand_30 t30)]) 37 0 [some (.ref x0), some (.int x1), some (.int x2), none] [] M := rfl
theorem ok_X12_stand_0 {X : cCtx} {D : Nat} {r : Int32 × cM} (G : FX X 4 (eI r) cX12_stand RX12 1 D) {F : Nat} (hca : ∀ x ∈ (ca_X12_stand (R' := Int32 × cM) F), 1 ≤ D ∧ ceS X.1 RX12 (D - 1) x.1 x.2) : ∀ x0 x1 x2 M, f_X12_stand_0 F x0 x1 x2 M = some r → WX X 4 (eI r) 0 [some (.ref x0), some (.int x1), some (.int x2), none] [] M := by
  intro x0 x1 x2 M h
  exact seg_ok G P_RX12_ok T_X12_stand_ok hca (fun _ h => absurd h List.not_mem_nil) sw_X12_stand_ok krI_ok (kxN_ok (f := eI)) (List.forall_mem_cons.mpr ⟨kf_X12_stand_30 (ok_X12_stand_30 G hca), fun _ h => absurd h List.not_mem_nil⟩) ((e_X12_stand_0 F (f_X12_stand_30 F) x0 x1 x2 M).symm.trans h)
theorem c_X12_stand {q : cL} (hst : q.1.stackTraces = false) {D : Nat} (hD : 2 ≤ D) (F : Nat) (a0 : Nat) (a1 : Int32) (a2 : Int32) (M : cM) (r : Int32 × cM) (h : f_X12_stand F a0 a1 a2 M = some r) : CTx q yX12_stand (.code yX12_stand cX12_stand 4 (some .boolean)) D [.ref a0, .int a1, .int a2] M (eI r) ∧ ∃ fs, M[a0]? = some (.inr (10, fs)) := by
  unfold f_X12_stand at h
  split at h
  · next hi => exact ⟨CTx_of (own := RX12) (rk := 1) hst (by decide +kernel) rfl (rfl) (Nat.le_of_ble_eq_true rfl) (fun X hX G => by subst hX; exact ok_X12_stand_0 G (ca_X12_stand_ok hst hD F) a0 a1 a2 M h), isC_of hi⟩
  · cases h
