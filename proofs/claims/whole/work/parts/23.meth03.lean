/-! METHODS, part 3 (laid by wip/whole/tools/gen.py) -/
-- PatchbayScript$Board.lookAt(LPatchbayScript$Text;LPatchbayScript$Text;)V
def T_X1_lookAt : List cRow := [(0, .aload_n 0, 1, 0), (1, .getfield 10, 4, 0), (4, .aload_n 1, 5, 0), (5, .invokevirtual 42, 8, 0), (8, .aload_n 0, 9, 0), (9, .getfield 16, 12, 0), (12, .aload_n 2, 13, 0), (13, .invokevirtual 42, 16, 0), (16, .iconst 0, 17, 0), (17, .istore_n 3, 18, 0), (18, .iload_n 3, 19, 0), (19, .bipush 30, 21, 0), (21, .if_icmp .ge 23, 24, 44), (24, .aload_n 0, 25, 0), (25, .getfield 19, 28, 0), (28, .iload_n 3, 29, 0), (29, .aload_n 0, 30, 0), (30, .getfield 10, 33, 0), (33, .iload_n 3, 34, 0), (34, .invokevirtual 46, 37, 0), (37, .iastore, 38, 0), (38, .iinc 3 1, 41, 0), (41, .goto (-23), 44, 18), (44, .iconst 0, 45, 0), (45, .istore_n 3, 46, 0), (46, .iload_n 3, 47, 0), (47, .sipush 128, 50, 0), (50, .if_icmp .ge 16, 53, 66), (53, .aload_n 0, 54, 0), (54, .getfield 25, 57, 0), (57, .iload_n 3, 58, 0), (58, .iconst 0, 59, 0), (59, .iastore, 60, 0), (60, .iinc 3 1, 63, 0), (63, .goto (-17), 66, 46), (66, .iconst 0, 67, 0), (67, .istore_n 3, 68, 0), (68, .iload_n 3, 69, 0), (69, .aload_n 0, 70, 0), (70, .getfield 16, 73, 0), (73, .getfield 50, 76, 0), (76, .if_icmp .ge 31, 79, 107), (79, .aload_n 0, 80, 0), (80, .getfield 25, 83, 0), (83, .aload_n 0, 84, 0), (84, .getfield 16, 87, 0), (87, .iload_n 3, 88, 0), (88, .invokevirtual 54, 91, 0), (91, .bipush 127, 93, 0), (93, .iand, 94, 0), (94, .dup2, 95, 0), (95, .iaload, 96, 0), (96, .iconst 1, 97, 0), (97, .iload_n 3, 98, 0), (98, .ishl, 99, 0), (99, .ior, 100, 0), (100, .iastore, 101, 0), (101, .iinc 3 1, 104, 0), (104, .goto (-36), 107, 68), (107, .iconst 0, 108, 0), (108, .istore_n 3, 109, 0), (109, .iload_n 3, 110, 0), (110, .iconst 4, 111, 0), (111, .if_icmp .ge 14, 114, 125), (114, .aload_n 0, 115, 0), (115, .iload_n 3, 116, 0), (116, .invokevirtual 58, 119, 0), (119, .iinc 3 1, 122, 0), (122, .goto (-13), 125, 109), (125, .iconst 0, 126, 0), (126, .istore_n 3, 127, 0), (127, .iload_n 3, 128, 0), (128, .bipush 72, 130, 0), (130, .if_icmp .ge 14, 133, 144), (133, .aload_n 0, 134, 0), (134, .iload_n 3, 135, 0), (135, .invokevirtual 62, 138, 0), (138, .iinc 3 1, 141, 0), (141, .goto (-14), 144, 127), (144, .return_, 145, 0)]
theorem T_X1_lookAt_ok : T_X1_lookAt.all (rowB cX1_lookAt) = true := by decide +kernel
def th_X1_lookAt : List (Nat × Nat) := []
def sw_X1_lookAt : List (Nat × (List (Int32 × Nat) × Nat)) := []
theorem sw_X1_lookAt_ok : ∀ q ∈ sw_X1_lookAt, swS cX1_lookAt q := fun _ h => absurd h List.not_mem_nil
def na_X1_lookAt : List (Nat × Nat) := [(127, 2), (139, 2), (163, 2), (175, 2), (187, 2)]
def ca_X1_lookAt {R' : Type} (F : Nat) : List (Nat × cFn R') := [(127, n_X10_set (f_X10_set F)), (139, n_X10_placeOfSpot (f_X10_placeOfSpot F)), (163, n_X10_at (f_X10_at F)), (175, n_X1_lookAtCuts (f_X1_lookAtCuts F)), (187, n_X1_lookAtEach (f_X1_lookAtEach F))]
theorem ca_X1_lookAt_ok {R' : Type} {q : cL} (hst : q.1.stackTraces = false) {D : Nat} (hD : 4 ≤ D) (F : Nat) : ∀ x ∈ (ca_X1_lookAt (R' := R') F), 1 ≤ D ∧ ceS q RX1 (D - 1) x.1 x.2 := List.forall_mem_cons.mpr ⟨⟨by omega, n_X10_set_ok (k := 42) (lw_good_of (tb_ok 778 (by decide +kernel)) rfl) (fun a0 a1 M r h => c_X10_set hst (by omega) F a0 a1 M r h)⟩, List.forall_mem_cons.mpr ⟨⟨by omega, n_X10_placeOfSpot_ok (k := 46) (lw_good_of (tb_ok 779 (by decide +kernel)) rfl) (fun a0 a1 M r h => c_X10_placeOfSpot hst (by omega) F a0 a1 M r h)⟩, List.forall_mem_cons.mpr ⟨⟨by omega, n_X10_at_ok (k := 54) (lw_good_of (tb_ok 780 (by decide +kernel)) rfl) (fun a0 a1 M r h => c_X10_at hst (by omega) F a0 a1 M r h)⟩, List.forall_mem_cons.mpr ⟨⟨by omega, n_X1_lookAtCuts_ok (k := 58) (lw_good_of (tb_ok 781 (by decide +kernel)) rfl) (fun a0 a1 M r h => c_X1_lookAtCuts hst (by omega) F a0 a1 M r h)⟩, List.forall_mem_cons.mpr ⟨⟨by omega, n_X1_lookAtEach_ok (k := 62) (lw_good_of (tb_ok 790 (by decide +kernel)) rfl) (fun a0 a1 M r h => c_X1_lookAtEach hst (by omega) F a0 a1 M r h)⟩, fun _ h => absurd h List.not_mem_nil⟩⟩⟩⟩⟩
def kd_X1_lookAt_18 (g : Nat → Int32 → cM → Option (cM)) : cKf (cM) := fun vs st M => (lR vs 0).bind fun x0 => (lI vs 3).bind fun x3 => match st with
  | [] => g x0 x3 M
  | _ => none
theorem kf_X1_lookAt_18 {X : cCtx} {o : cO} {r : cM} {g : Nat → Int32 → cM → Option (cM)} (hg : ∀ x0 x3 M, g x0 x3 M = some r → WX X 4 o 18 [some (.ref x0), none, none, some (.int x3)] [] M) : ∀ vs st M, kd_X1_lookAt_18 g vs st M = some r → WX X 4 o 18 vs st M := by
  intro vs st M h
  unfold kd_X1_lookAt_18 at h
  obtain ⟨x0, h0, h⟩ := Option.bind_eq_some_iff.mp h
  obtain ⟨x3, h3, h⟩ := Option.bind_eq_some_iff.mp h
  split at h
  · exact WX_weak (hg _ _ _ h) rfl ⟨lR_of h0, lI_of h3, trivial⟩
  · cases h
def kd_X1_lookAt_46 (g : Nat → Int32 → cM → Option (cM)) : cKf (cM) := fun vs st M => (lR vs 0).bind fun x0 => (lI vs 3).bind fun x3 => match st with
  | [] => g x0 x3 M
  | _ => none
theorem kf_X1_lookAt_46 {X : cCtx} {o : cO} {r : cM} {g : Nat → Int32 → cM → Option (cM)} (hg : ∀ x0 x3 M, g x0 x3 M = some r → WX X 4 o 46 [some (.ref x0), none, none, some (.int x3)] [] M) : ∀ vs st M, kd_X1_lookAt_46 g vs st M = some r → WX X 4 o 46 vs st M := by
  intro vs st M h
  unfold kd_X1_lookAt_46 at h
  obtain ⟨x0, h0, h⟩ := Option.bind_eq_some_iff.mp h
  obtain ⟨x3, h3, h⟩ := Option.bind_eq_some_iff.mp h
  split at h
  · exact WX_weak (hg _ _ _ h) rfl ⟨lR_of h0, lI_of h3, trivial⟩
  · cases h
def kd_X1_lookAt_68 (g : Nat → Int32 → cM → Option (cM)) : cKf (cM) := fun vs st M => (lR vs 0).bind fun x0 => (lI vs 3).bind fun x3 => match st with
  | [] => g x0 x3 M
  | _ => none
theorem kf_X1_lookAt_68 {X : cCtx} {o : cO} {r : cM} {g : Nat → Int32 → cM → Option (cM)} (hg : ∀ x0 x3 M, g x0 x3 M = some r → WX X 4 o 68 [some (.ref x0), none, none, some (.int x3)] [] M) : ∀ vs st M, kd_X1_lookAt_68 g vs st M = some r → WX X 4 o 68 vs st M := by
  intro vs st M h
  unfold kd_X1_lookAt_68 at h
  obtain ⟨x0, h0, h⟩ := Option.bind_eq_some_iff.mp h
  obtain ⟨x3, h3, h⟩ := Option.bind_eq_some_iff.mp h
  split at h
  · exact WX_weak (hg _ _ _ h) rfl ⟨lR_of h0, lI_of h3, trivial⟩
  · cases h
def kd_X1_lookAt_109 (g : Nat → Int32 → cM → Option (cM)) : cKf (cM) := fun vs st M => (lR vs 0).bind fun x0 => (lI vs 3).bind fun x3 => match st with
  | [] => g x0 x3 M
  | _ => none
theorem kf_X1_lookAt_109 {X : cCtx} {o : cO} {r : cM} {g : Nat → Int32 → cM → Option (cM)} (hg : ∀ x0 x3 M, g x0 x3 M = some r → WX X 4 o 109 [some (.ref x0), none, none, some (.int x3)] [] M) : ∀ vs st M, kd_X1_lookAt_109 g vs st M = some r → WX X 4 o 109 vs st M := by
  intro vs st M h
  unfold kd_X1_lookAt_109 at h
  obtain ⟨x0, h0, h⟩ := Option.bind_eq_some_iff.mp h
  obtain ⟨x3, h3, h⟩ := Option.bind_eq_some_iff.mp h
  split at h
  · exact WX_weak (hg _ _ _ h) rfl ⟨lR_of h0, lI_of h3, trivial⟩
  · cases h
def kd_X1_lookAt_127 (g : Nat → Int32 → cM → Option (cM)) : cKf (cM) := fun vs st M => (lR vs 0).bind fun x0 => (lI vs 3).bind fun x3 => match st with
  | [] => g x0 x3 M
  | _ => none
theorem kf_X1_lookAt_127 {X : cCtx} {o : cO} {r : cM} {g : Nat → Int32 → cM → Option (cM)} (hg : ∀ x0 x3 M, g x0 x3 M = some r → WX X 4 o 127 [some (.ref x0), none, none, some (.int x3)] [] M) : ∀ vs st M, kd_X1_lookAt_127 g vs st M = some r → WX X 4 o 127 vs st M := by
  intro vs st M h
  unfold kd_X1_lookAt_127 at h
  obtain ⟨x0, h0, h⟩ := Option.bind_eq_some_iff.mp h
  obtain ⟨x3, h3, h⟩ := Option.bind_eq_some_iff.mp h
  split at h
  · exact WX_weak (hg _ _ _ h) rfl ⟨lR_of h0, lI_of h3, trivial⟩
  · cases h
theorem e_X1_lookAt_127 (F : Nat) (t127 : Nat → Int32 → cM → Option (cM)) (x0 : Nat) (x3 : Int32) (M : cM) : b_X1_lookAt_127 F t127 x0 x3 M = run T_X1_lookAt P_RX1 false 5 (naL na_X1_lookAt) (caL (ca_X1_lookAt F)) (lkN th_X1_lookAt) (lkN sw_X1_lookAt) krV kxN (spL [127]) (KL [(127, kd_X1_lookAt_127 t127)]) 83 127 [some (.ref x0), none, none, some (.int x3)] [] M := rfl
theorem ok_X1_lookAt_127 {X : cCtx} {D : Nat} {r : cM} (G : FX X 4 (eV r) cX1_lookAt RX1 5 D) {F : Nat} (hca : ∀ x ∈ (ca_X1_lookAt (R' := cM) F), 1 ≤ D ∧ ceS X.1 RX1 (D - 1) x.1 x.2) (n : Nat) : ∀ x0 x3 M, f_X1_lookAt_127 F n x0 x3 M = some r → WX X 4 (eV r) 127 [some (.ref x0), none, none, some (.int x3)] [] M := by
  induction n with
  | zero => intro x0 x3 M h; cases h
  | succ n ih =>
    intro x0 x3 M h
    exact seg_ok G P_RX1_ok T_X1_lookAt_ok hca (fun _ h => absurd h List.not_mem_nil) sw_X1_lookAt_ok krV_ok (kxN_ok (f := eV)) (List.forall_mem_cons.mpr ⟨kf_X1_lookAt_127 (ih), fun _ h => absurd h List.not_mem_nil⟩) ((e_X1_lookAt_127 F (f_X1_lookAt_127 F n) x0 x3 M).symm.trans h)
theorem e_X1_lookAt_109 (F : Nat) (t109 : Nat → Int32 → cM → Option (cM)) (t127 : Nat → Int32 → cM → Option (cM)) (x0 : Nat) (x3 : Int32) (M : cM) : b_X1_lookAt_109 F t109 t127 x0 x3 M = run T_X1_lookAt P_RX1 false 5 (naL na_X1_lookAt) (caL (ca_X1_lookAt F)) (lkN th_X1_lookAt) (lkN sw_X1_lookAt) krV kxN (spL [109, 127]) (KL [(109, kd_X1_lookAt_109 t109), (127, kd_X1_lookAt_127 t127)]) 83 109 [some (.ref x0), none, none, some (.int x3)] [] M := rfl
theorem ok_X1_lookAt_109 {X : cCtx} {D : Nat} {r : cM} (G : FX X 4 (eV r) cX1_lookAt RX1 5 D) {F : Nat} (hca : ∀ x ∈ (ca_X1_lookAt (R' := cM) F), 1 ≤ D ∧ ceS X.1 RX1 (D - 1) x.1 x.2) (n : Nat) : ∀ x0 x3 M, f_X1_lookAt_109 F n x0 x3 M = some r → WX X 4 (eV r) 109 [some (.ref x0), none, none, some (.int x3)] [] M := by
  induction n with
  | zero => intro x0 x3 M h; cases h
  | succ n ih =>
    intro x0 x3 M h
    exact seg_ok G P_RX1_ok T_X1_lookAt_ok hca (fun _ h => absurd h List.not_mem_nil) sw_X1_lookAt_ok krV_ok (kxN_ok (f := eV)) (List.forall_mem_cons.mpr ⟨kf_X1_lookAt_109 (ih), List.forall_mem_cons.mpr ⟨kf_X1_lookAt_127 (ok_X1_lookAt_127 G hca F), fun _ h => absurd h List.not_mem_nil⟩⟩) ((e_X1_lookAt_109 F (f_X1_lookAt_109 F n) (f_X1_lookAt_127 F F) x0 x3 M).symm.trans h)
theorem e_X1_lookAt_68 (F : Nat) (t68 : Nat → Int32 → cM → Option (cM)) (t109 : Nat → Int32 → cM → Option (cM)) (x0 : Nat) (x3 : Int32) (M : cM) : b_X1_lookAt_68 F t68 t109 x0 x3 M = run T_X1_lookAt P_RX1 false 5 (naL na_X1_lookAt) (caL (ca_X1_lookAt F)) (lkN th_X1_lookAt) (lkN sw_X1_lookAt) krV kxN (spL [68, 109]) (KL [(68, kd_X1_lookAt_68 t68), (109, kd_X1_lookAt_109 t109)]) 83 68 [some (.ref x0), none, none, some (.int x3)] [] M := rfl
theorem ok_X1_lookAt_68 {X : cCtx} {D : Nat} {r : cM} (G : FX X 4 (eV r) cX1_lookAt RX1 5 D) {F : Nat} (hca : ∀ x ∈ (ca_X1_lookAt (R' := cM) F), 1 ≤ D ∧ ceS X.1 RX1 (D - 1) x.1 x.2) (n : Nat) : ∀ x0 x3 M, f_X1_lookAt_68 F n x0 x3 M = some r → WX X 4 (eV r) 68 [some (.ref x0), none, none, some (.int x3)] [] M := by
  induction n with
  | zero => intro x0 x3 M h; cases h
  | succ n ih =>
    intro x0 x3 M h
    exact seg_ok G P_RX1_ok T_X1_lookAt_ok hca (fun _ h => absurd h List.not_mem_nil) sw_X1_lookAt_ok krV_ok (kxN_ok (f := eV)) (List.forall_mem_cons.mpr ⟨kf_X1_lookAt_68 (ih), List.forall_mem_cons.mpr ⟨kf_X1_lookAt_109 (ok_X1_lookAt_109 G hca F), fun _ h => absurd h List.not_mem_nil⟩⟩) ((e_X1_lookAt_68 F (f_X1_lookAt_68 F n) (f_X1_lookAt_109 F F) x0 x3 M).symm.trans h)
theorem e_X1_lookAt_46 (F : Nat) (t46 : Nat → Int32 → cM → Option (cM)) (t68 : Nat → Int32 → cM → Option (cM)) (x0 : Nat) (x3 : Int32) (M : cM) : b_X1_lookAt_46 F t46 t68 x0 x3 M = run T_X1_lookAt P_RX1 false 5 (naL na_X1_lookAt) (caL (ca_X1_lookAt F)) (lkN th_X1_lookAt) (lkN sw_X1_lookAt) krV kxN (spL [46, 68]) (KL [(46, kd_X1_lookAt_46 t46), (68, kd_X1_lookAt_68 t68)]) 83 46 [some (.ref x0), none, none, some (.int x3)] [] M := rfl
theorem ok_X1_lookAt_46 {X : cCtx} {D : Nat} {r : cM} (G : FX X 4 (eV r) cX1_lookAt RX1 5 D) {F : Nat} (hca : ∀ x ∈ (ca_X1_lookAt (R' := cM) F), 1 ≤ D ∧ ceS X.1 RX1 (D - 1) x.1 x.2) (n : Nat) : ∀ x0 x3 M, f_X1_lookAt_46 F n x0 x3 M = some r → WX X 4 (eV r) 46 [some (.ref x0), none, none, some (.int x3)] [] M := by
  induction n with
  | zero => intro x0 x3 M h; cases h
  | succ n ih =>
    intro x0 x3 M h
    exact seg_ok G P_RX1_ok T_X1_lookAt_ok hca (fun _ h => absurd h List.not_mem_nil) sw_X1_lookAt_ok krV_ok (kxN_ok (f := eV)) (List.forall_mem_cons.mpr ⟨kf_X1_lookAt_46 (ih), List.forall_mem_cons.mpr ⟨kf_X1_lookAt_68 (ok_X1_lookAt_68 G hca F), fun _ h => absurd h List.not_mem_nil⟩⟩) ((e_X1_lookAt_46 F (f_X1_lookAt_46 F n) (f_X1_lookAt_68 F F) x0 x3 M).symm.trans h)
theorem e_X1_lookAt_18 (F : Nat) (t18 : Nat → Int32 → cM → Option (cM)) (t46 : Nat → Int32 → cM → Option (cM)) (x0 : Nat) (x3 : Int32) (M : cM) : b_X1_lookAt_18 F t18 t46 x0 x3 M = run T_X1_lookAt P_RX1 false 5 (naL na_X1_lookAt) (caL (ca_X1_lookAt F)) (lkN th_X1_lookAt) (lkN sw_X1_lookAt) krV kxN (spL [18, 46]) (KL [(18, kd_X1_lookAt_18 t18), (46, kd_X1_lookAt_46 t46)]) 83 18 [some (.ref x0), none, none, some (.int x3)] [] M := rfl
theorem ok_X1_lookAt_18 {X : cCtx} {D : Nat} {r : cM} (G : FX X 4 (eV r) cX1_lookAt RX1 5 D) {F : Nat} (hca : ∀ x ∈ (ca_X1_lookAt (R' := cM) F), 1 ≤ D ∧ ceS X.1 RX1 (D - 1) x.1 x.2) (n : Nat) : ∀ x0 x3 M, f_X1_lookAt_18 F n x0 x3 M = some r → WX X 4 (eV r) 18 [some (.ref x0), none, none, some (.int x3)] [] M := by
  induction n with
  | zero => intro x0 x3 M h; cases h
  | succ n ih =>
    intro x0 x3 M h
    exact seg_ok G P_RX1_ok T_X1_lookAt_ok hca (fun _ h => absurd h List.not_mem_nil) sw_X1_lookAt_ok krV_ok (kxN_ok (f := eV)) (List.forall_mem_cons.mpr ⟨kf_X1_lookAt_18 (ih), List.forall_mem_cons.mpr ⟨kf_X1_lookAt_46 (ok_X1_lookAt_46 G hca F), fun _ h => absurd h List.not_mem_nil⟩⟩) ((e_X1_lookAt_18 F (f_X1_lookAt_18 F n) (f_X1_lookAt_46 F F) x0 x3 M).symm.trans h)
theorem e_X1_lookAt_0 (F : Nat) (t18 : Nat → Int32 → cM → Option (cM)) (x0 : Nat) (x1 : Nat) (x2 : Nat) (M : cM) : b_X1_lookAt_0 F t18 x0 x1 x2 M = run T_X1_lookAt P_RX1 false 5 (naL na_X1_lookAt) (caL (ca_X1_lookAt F)) (lkN th_X1_lookAt) (lkN sw_X1_lookAt) krV kxN (spL [18]) (KL [(18, kd_X1_lookAt_18 t18)]) 83 0 [some (.ref x0), some (.ref x1), some (.ref x2), none] [] M := rfl
theorem ok_X1_lookAt_0 {X : cCtx} {D : Nat} {r : cM} (G : FX X 4 (eV r) cX1_lookAt RX1 5 D) {F : Nat} (hca : ∀ x ∈ (ca_X1_lookAt (R' := cM) F), 1 ≤ D ∧ ceS X.1 RX1 (D - 1) x.1 x.2) : ∀ x0 x1 x2 M, f_X1_lookAt_0 F x0 x1 x2 M = some r → WX X 4 (eV r) 0 [some (.ref x0), some (.ref x1), some (.ref x2), none] [] M := by
  intro x0 x1 x2 M h
  exact seg_ok G P_RX1_ok T_X1_lookAt_ok hca (fun _ h => absurd h List.not_mem_nil) sw_X1_lookAt_ok krV_ok (kxN_ok (f := eV)) (List.forall_mem_cons.mpr ⟨kf_X1_lookAt_18 (ok_X1_lookAt_18 G hca F), fun _ h => absurd h List.not_mem_nil⟩) ((e_X1_lookAt_0 F (f_X1_lookAt_18 F F) x0 x1 x2 M).symm.trans h)
theorem c_X1_lookAt {q : cL} (hst : q.1.stackTraces = false) {D : Nat} (hD : 4 ≤ D) (F : Nat) (a0 : Nat) (a1 : Nat) (a2 : Nat) (M : cM) (r : cM) (h : f_X1_lookAt F a0 a1 a2 M = some r) : CTx q yX1_lookAt (.code yX1_lookAt cX1_lookAt 4 none) D [.ref a0, .ref a1, .ref a2] M (eV r) ∧ ∃ fs, M[a0]? = some (.inr (0, fs)) := by
  unfold f_X1_lookAt at h
  split at h
  · next hi => exact ⟨CTx_of (own := RX1) (rk := 5) hst (by decide +kernel) rfl (rfl) (Nat.le_of_ble_eq_true rfl) (fun X hX G => by subst hX; exact ok_X1_lookAt_0 G (ca_X1_lookAt_ok hst hD F) a0 a1 a2 M h), isC_of hi⟩
  · cases h
def n_X1_lookAt {R' : Type} (f : Nat → Nat → Nat → cM → Option (cM)) : cFn R' := fun as M κ κx => match as with
  | [.ref a0, .ref a1, .ref a2] => (f a0 a1 a2 M).bind fun p => κ none p
  | _ => none
theorem w_X1_lookAt : ∀ w ∈ [Cond.instanceMethod yX1_lookAt, .selects yX1_lookAt.cls yX1_lookAt yX1_lookAt, .initialized yX1_lookAt.cls, .code yX1_lookAt cX1_lookAt 4 none], w ∈ lw_good := List.forall_mem_cons.mpr ⟨lw_good_of (tb_ok 775 (by decide +kernel)) rfl, List.forall_mem_cons.mpr ⟨lw_good_of (tb_ok 776 (by decide +kernel)) rfl, List.forall_mem_cons.mpr ⟨lw_good_of (tb_ok 10 (by decide +kernel)) rfl, List.forall_mem_cons.mpr ⟨lw_good_of (tb_ok 777 (by decide +kernel)) rfl, fun _ h => absurd h List.not_mem_nil⟩⟩⟩⟩
theorem n_X1_lookAt_ok {R' : Type} {q : cL} {own : String} {d k : Nat} {f : Nat → Nat → Nat → cM → Option (cM)} (hl : Cond.methodLink own k yX1_lookAt ∈ lw_good) (hf : ∀ a0 a1 a2 M r, f a0 a1 a2 M = some r → CTx q yX1_lookAt (.code yX1_lookAt cX1_lookAt 4 none) d [.ref a0, .ref a1, .ref a2] M (eV r) ∧ ∃ fs, M[a0]? = some (.inr (0, fs))) : ceS q own d (3 * k + 1) (n_X1_lookAt (R' := R') f) := by
  intro as M κ κx r h
  unfold n_X1_lookAt at h
  split at h
  · obtain ⟨p, h1, h2⟩ := Option.bind_eq_some_iff.mp h
    obtain ⟨hc, fs, ha⟩ := hf _ _ _ _ _ h1
    exact ⟨eV p, fun _ => h2, fun hne => absurd rfl hne, Or.inr (Or.inl ⟨yX1_lookAt, cX1_lookAt, 4, none, k, 2, _, _, 0, TX1, 8, fs, rfl, rfl, hc, ha, rfl, List.forall_mem_cons.mpr ⟨hl, w_X1_lookAt⟩, ⟨rfl, by decide +kernel, by decide +kernel, by decide +kernel⟩, rfl, by decide⟩)⟩
  · cases h
-- PatchbayScript$Board.sharedFrom(LPatchbayScript$Text;II)I
def T_X1_sharedFrom : List cRow := [(0, .iconst (-1), 1, 0), (1, .istore 4, 3, 0), (3, .iconst 0, 4, 0), (4, .istore 5, 6, 0), (6, .iload 5, 8, 0), (8, .iload_n 3, 9, 0), (9, .if_icmp .ge 35, 12, 44), (12, .aload_n 0, 13, 0), (13, .iload 4, 15, 0), (15, .aload_n 1, 16, 0), (16, .iload_n 2, 17, 0), (17, .iload 5, 19, 0), (19, .iadd, 20, 0), (20, .invokevirtual 54, 23, 0), (23, .iload 5, 25, 0), (25, .invokevirtual 69, 28, 0), (28, .istore 4, 30, 0), (30, .iload 4, 32, 0), (32, .ifCond .ne 6, 35, 38), (35, .iload 5, 37, 0), (37, .ireturn, 38, 0), (38, .iinc 5 1, 41, 0), (41, .goto (-35), 44, 6), (44, .iload_n 3, 45, 0), (45, .ireturn, 46, 0)]
theorem T_X1_sharedFrom_ok : T_X1_sharedFrom.all (rowB cX1_sharedFrom) = true := by decide +kernel
def th_X1_sharedFrom : List (Nat × Nat) := []
def sw_X1_sharedFrom : List (Nat × (List (Int32 × Nat) × Nat)) := []
theorem sw_X1_sharedFrom_ok : ∀ q ∈ sw_X1_sharedFrom, swS cX1_sharedFrom q := fun _ h => absurd h List.not_mem_nil
def na_X1_sharedFrom : List (Nat × Nat) := [(163, 2), (208, 4)]
def ca_X1_sharedFrom {R' : Type} (F : Nat) : List (Nat × cFn R') := [(163, n_X10_at (f_X10_at F)), (208, n_X1_narrowed (f_X1_narrowed F))]
theorem ca_X1_sharedFrom_ok {R' : Type} {q : cL} (hst : q.1.stackTraces = false) {D : Nat} (hD : 1 ≤ D) (F : Nat) : ∀ x ∈ (ca_X1_sharedFrom (R' := R') F), 1 ≤ D ∧ ceS q RX1 (D - 1) x.1 x.2 := List.forall_mem_cons.mpr ⟨⟨by omega, n_X10_at_ok (k := 54) (lw_good_of (tb_ok 780 (by decide +kernel)) rfl) (fun a0 a1 M r h => c_X10_at hst (by omega) F a0 a1 M r h)⟩, List.forall_mem_cons.mpr ⟨⟨by omega, n_X1_narrowed_ok (k := 69) (lw_good_of (tb_ok 786 (by decide +kernel)) rfl) (fun a0 a1 a2 a3 M r h => c_X1_narrowed hst (by omega) F a0 a1 a2 a3 M r h)⟩, fun _ h => absurd h List.not_mem_nil⟩⟩
def kd_X1_sharedFrom_6 (g : Nat → Nat → Int32 → Int32 → Int32 → Int32 → cM → Option (Int32 × cM)) : cKf (Int32 × cM) := fun vs st M => (lR vs 0).bind fun x0 => (lR vs 1).bind fun x1 => (lI vs 2).bind fun x2 => (lI vs 3).bind fun x3 => (lI vs 4).bind fun x4 => (lI vs 5).bind fun x5 => match st with
  | [] => g x0 x1 x2 x3 x4 x5 M
  | _ => none
theorem kf_X1_sharedFrom_6 {X : cCtx} {o : cO} {r : Int32 × cM} {g : Nat → Nat → Int32 → Int32 → Int32 → Int32 → cM → Option (Int32 × cM)} (hg : ∀ x0 x1 x2 x3 x4 x5 M, g x0 x1 x2 x3 x4 x5 M = some r → WX X 6 o 6 [some (.ref x0), some (.ref x1), some (.int x2), some (.int x3), some (.int x4), some (.int x5)] [] M) : ∀ vs st M, kd_X1_sharedFrom_6 g vs st M = some r → WX X 6 o 6 vs st M := by
  intro vs st M h
  unfold kd_X1_sharedFrom_6 at h
  obtain ⟨x0, h0, h⟩ := Option.bind_eq_some_iff.mp h
  obtain ⟨x1, h1, h⟩ := Option.bind_eq_some_iff.mp h
  obtain ⟨x2, h2, h⟩ := Option.bind_eq_some_iff.mp h
  obtain ⟨x3, h3, h⟩ := Option.bind_eq_some_iff.mp h
  obtain ⟨x4, h4, h⟩ := Option.bind_eq_some_iff.mp h
  obtain ⟨x5, h5, h⟩ := Option.bind_eq_some_iff.mp h
  split at h
  · exact WX_weak (hg _ _ _ _ _ _ _ h) rfl ⟨lR_of h0, lR_of h1, lI_of h2, lI_of h3, lI_of h4, lI_of h5, trivial⟩
  · cases h
theorem e_X1_sharedFrom_6 (F : Nat) (t6 : Nat → Nat → Int32 → Int32 → Int32 → Int32 → cM → Option (Int32 × cM)) (x0 : Nat) (x1 : Nat) (x2 : Int32) (x3 : Int32) (x4 : Int32) (x5 : Int32) (M : cM) : b_X1_sharedFrom_6 F t6 x0 x1 x2 x3 x4 x5 M = run T_X1_sharedFrom P_RX1 false 0 (naL na_X1_sharedFrom) (caL (ca_X1_sharedFrom F)) (lkN th_X1_sharedFrom) (lkN sw_X1_sharedFrom) krI kxN (spL [6]) (KL [(6, kd_X1_sharedFrom_6 t6)]) 28 6 [some (.ref x0), some (.ref x1), some (.int x2), some (.int x3), some (.int x4), some (.int x5)] [] M := rfl
theorem ok_X1_sharedFrom_6 {X : cCtx} {D : Nat} {r : Int32 × cM} (G : FX X 6 (eI r) cX1_sharedFrom RX1 0 D) {F : Nat} (hca : ∀ x ∈ (ca_X1_sharedFrom (R' := Int32 × cM) F), 1 ≤ D ∧ ceS X.1 RX1 (D - 1) x.1 x.2) (n : Nat) : ∀ x0 x1 x2 x3 x4 x5 M, f_X1_sharedFrom_6 F n x0 x1 x2 x3 x4 x5 M = some r → WX X 6 (eI r) 6 [some (.ref x0), some (.ref x1), some (.int x2), some (.int x3), some (.int x4), some (.int x5)] [] M := by
  induction n with
  | zero => intro x0 x1 x2 x3 x4 x5 M h; cases h
  | succ n ih =>
    intro x0 x1 x2 x3 x4 x5 M h
    exact seg_ok G P_RX1_ok T_X1_sharedFrom_ok hca (fun _ h => absurd h List.not_mem_nil) sw_X1_sharedFrom_ok krI_ok (kxN_ok (f := eI)) (List.forall_mem_cons.mpr ⟨kf_X1_sharedFrom_6 (ih), fun _ h => absurd h List.not_mem_nil⟩) ((e_X1_sharedFrom_6 F (f_X1_sharedFrom_6 F n) x0 x1 x2 x3 x4 x5 M).symm.trans h)
theorem e_X1_sharedFrom_0 (F : Nat) (t6 : Nat → Nat → Int32 → Int32 → Int32 → Int32 → cM → Option (Int32 × cM)) (x0 : Nat) (x1 : Nat) (x2 : Int32) (x3 : Int32) (M : cM) : b_X1_sharedFrom_0 F t6 x0 x1 x2 x3 M = run T_X1_sharedFrom P_RX1 false 0 (naL na_X1_sharedFrom) (caL (ca_X1_sharedFrom F)) (lkN th_X1_sharedFrom) (lkN sw_X1_sharedFrom) krI kxN (spL [6]) (KL [(6, kd_X1_sharedFrom_6 t6)]) 28 0 [some (.ref x0), some (.ref x1), some (.int x2), some (.int x3), none, none] [] M := rfl
theorem ok_X1_sharedFrom_0 {X : cCtx} {D : Nat} {r : Int32 × cM} (G : FX X 6 (eI r) cX1_sharedFrom RX1 0 D) {F : Nat} (hca : ∀ x ∈ (ca_X1_sharedFrom (R' := Int32 × cM) F), 1 ≤ D ∧ ceS X.1 RX1 (D - 1) x.1 x.2) : ∀ x0 x1 x2 x3 M, f_X1_sharedFrom_0 F x0 x1 x2 x3 M = some r → WX X 6 (eI r) 0 [some (.ref x0), some (.ref x1), some (.int x2), some (.int x3), none, none] [] M := by
  intro x0 x1 x2 x3 M h
  exact seg_ok G P_RX1_ok T_X1_sharedFrom_ok hca (fun _ h => absurd h List.not_mem_nil) sw_X1_sharedFrom_ok krI_ok (kxN_ok (f := eI)) (List.forall_mem_cons.mpr ⟨kf_X1_sharedFrom_6 (ok_X1_sharedFrom_6 G hca F), fun _ h => absurd h List.not_mem_nil⟩) ((e_X1_sharedFrom_0 F (f_X1_sharedFrom_6 F F) x0 x1 x2 x3 M).symm.trans h)
theorem c_X1_sharedFrom {q : cL} (hst : q.1.stackTraces = false) {D : Nat} (hD : 1 ≤ D) (F : Nat) (a0 : Nat) (a1 : Nat) (a2 : Int32) (a3 : Int32) (M : cM) (r : Int32 × cM) (h : f_X1_sharedFrom F a0 a1 a2 a3 M = some r) : CTx q yX1_sharedFrom (.code yX1_sharedFrom cX1_sharedFrom 6 (some .int)) D [.ref a0, .ref a1, .int a2, .int a3] M (eI r) ∧ ∃ fs, M[a0]? = some (.inr (0, fs)) := by
  unfold f_X1_sharedFrom at h
  split at h
  · next hi => exact ⟨CTx_of (own := RX1) (rk := 0) hst (by decide +kernel) rfl (rfl) (Nat.le_of_ble_eq_true rfl) (fun X hX G => by subst hX; exact ok_X1_sharedFrom_0 G (ca_X1_sharedFrom_ok hst hD F) a0 a1 a2 a3 M h), isC_of hi⟩
  · cases h
def n_X1_sharedFrom {R' : Type} (f : Nat → Nat → Int32 → Int32 → cM → Option (Int32 × cM)) : cFn R' := fun as M κ κx => match as with
  | [.ref a0, .ref a1, .int a2, .int a3] => (f a0 a1 a2 a3 M).bind fun p => κ (some (.int p.1)) p.2
  | _ => none
theorem w_X1_sharedFrom : ∀ w ∈ [Cond.instanceMethod yX1_sharedFrom, .selects yX1_sharedFrom.cls yX1_sharedFrom yX1_sharedFrom, .initialized yX1_sharedFrom.cls, .code yX1_sharedFrom cX1_sharedFrom 6 (some .int)], w ∈ lw_good := List.forall_mem_cons.mpr ⟨lw_good_of (tb_ok 868 (by decide +kernel)) rfl, List.forall_mem_cons.mpr ⟨lw_good_of (tb_ok 869 (by decide +kernel)) rfl, List.forall_mem_cons.mpr ⟨lw_good_of (tb_ok 10 (by decide +kernel)) rfl, List.forall_mem_cons.mpr ⟨lw_good_of (tb_ok 870 (by decide +kernel)) rfl, fun _ h => absurd h List.not_mem_nil⟩⟩⟩⟩
theorem n_X1_sharedFrom_ok {R' : Type} {q : cL} {own : String} {d k : Nat} {f : Nat → Nat → Int32 → Int32 → cM → Option (Int32 × cM)} (hl : Cond.methodLink own k yX1_sharedFrom ∈ lw_good) (hf : ∀ a0 a1 a2 a3 M r, f a0 a1 a2 a3 M = some r → CTx q yX1_sharedFrom (.code yX1_sharedFrom cX1_sharedFrom 6 (some .int)) d [.ref a0, .ref a1, .int a2, .int a3] M (eI r) ∧ ∃ fs, M[a0]? = some (.inr (0, fs))) : ceS q own d (3 * k + 1) (n_X1_sharedFrom (R' := R') f) := by
  intro as M κ κx r h
  unfold n_X1_sharedFrom at h
  split at h
  · obtain ⟨p, h1, h2⟩ := Option.bind_eq_some_iff.mp h
    obtain ⟨hc, fs, ha⟩ := hf _ _ _ _ _ _ h1
    exact ⟨eI p, fun _ => h2, fun hne => absurd rfl hne, Or.inr (Or.inl ⟨yX1_sharedFrom, cX1_sharedFrom, 6, (some .int), k, 3, _, _, 0, TX1, 8, fs, rfl, rfl, hc, ha, rfl, List.forall_mem_cons.mpr ⟨hl, w_X1_sharedFrom⟩, ⟨rfl, by decide +kernel, by decide +kernel, by decide +kernel⟩, rfl, by decide⟩)⟩
  · cases h
-- PatchbayScript$Board.hasCut(II)Z
def T_X1_hasCut : List cRow := [(0, .aload_n 0, 1, 0), (1, .getfield 19, 4, 0), (4, .iload_n 1, 5, 0), (5, .iaload, 6, 0), (6, .ifCond .lt 22, 9, 28), (9, .aload_n 0, 10, 0), (10, .getfield 19, 13, 0), (13, .iload_n 1, 14, 0), (14, .iaload, 15, 0), (15, .aload_n 0, 16, 0), (16, .getfield 19, 19, 0), (19, .iload_n 2, 20, 0), (20, .iaload, 21, 0), (21, .if_icmp .ge 7, 24, 28), (24, .iconst 1, 25, 0), (25, .goto 4, 28, 29), (28, .iconst 0, 29, 0), (29, .ireturn, 30, 0)]
theorem T_X1_hasCut_ok : T_X1_hasCut.all (rowB cX1_hasCut) = true := by decide +kernel
def th_X1_hasCut : List (Nat × Nat) := []
def sw_X1_hasCut : List (Nat × (List (Int32 × Nat) × Nat)) := []
theorem sw_X1_hasCut_ok : ∀ q ∈ sw_X1_hasCut, swS cX1_hasCut q := fun _ h => absurd h List.not_mem_nil
def na_X1_hasCut : List (Nat × Nat) := []
def ca_X1_hasCut {R' : Type} (F : Nat) : List (Nat × cFn R') := []
theorem ca_X1_hasCut_ok {R' : Type} {q : cL} (hst : q.1.stackTraces = false) {D : Nat} (hD : 0 ≤ D) (F : Nat) : ∀ x ∈ (ca_X1_hasCut (R' := R') F), 1 ≤ D ∧ ceS q RX1 (D - 1) x.1 x.2 := fun _ h => absurd h List.not_mem_nil
theorem e_X1_hasCut_0 (F : Nat) (x0 : Nat) (x1 : Int32) (x2 : Int32) (M : cM) : b_X1_hasCut_0 F x0 x1 x2 M = run T_X1_hasCut P_RX1 false 1 (naL na_X1_hasCut) (caL (ca_X1_hasCut F)) (lkN th_X1_hasCut) (lkN sw_X1_hasCut) krI kxN (spL []) (KL []) 21 0 [some (.ref x0), some (.int x1), some (.int x2)] [] M := rfl
theorem ok_X1_hasCut_0 {X : cCtx} {D : Nat} {r : Int32 × cM} (G : FX X 3 (eI r) cX1_hasCut RX1 1 D) {F : Nat} (hca : ∀ x ∈ (ca_X1_hasCut (R' := Int32 × cM) F), 1 ≤ D ∧ ceS X.1 RX1 (D - 1) x.1 x.2) : ∀ x0 x1 x2 M, f_X1_hasCut_0 F x0 x1 x2 M = some r → WX X 3 (eI r) 0 [some (.ref x0), some (.int x1), some (.int x2)] [] M := by
  intro x0 x1 x2 M h
  exact seg_ok G P_RX1_ok T_X1_hasCut_ok hca (fun _ h => absurd h List.not_mem_nil) sw_X1_hasCut_ok krI_ok (kxN_ok (f := eI)) (fun _ h => absurd h List.not_mem_nil) ((e_X1_hasCut_0 F x0 x1 x2 M).symm.trans h)
theorem c_X1_hasCut {q : cL} (hst : q.1.stackTraces = false) {D : Nat} (hD : 0 ≤ D) (F : Nat) (a0 : Nat) (a1 : Int32) (a2 : Int32) (M : cM) (r : Int32 × cM) (h : f_X1_hasCut F a0 a1 a2 M = some r) : CTx q yX1_hasCut (.code yX1_hasCut cX1_hasCut 3 (some .boolean)) D [.ref a0, .int a1, .int a2] M (eI r) ∧ ∃ fs, M[a0]? = some (.inr (0, fs)) := by
  unfold f_X1_hasCut at h
  split at h
  · next hi => exact ⟨CTx_of (own := RX1) (rk := 1) hst (by decide +kernel) rfl (rfl) (Nat.le_of_ble_eq_true rfl) (fun X hX G => by subst hX; exact ok_X1_hasCut_0 G (ca_X1_hasCut_ok hst hD F) a0 a1 a2 M h), isC_of hi⟩
  · cases h
def n_X1_hasCut {R' : Type} (f : Nat → Int32 → Int32 → cM → Option (Int32 × cM)) : cFn R' := fun as M κ κx => match as with
  | [.ref a0, .int a1, .int a2] => (f a0 a1 a2 M).bind fun p => κ (some (.int p.1)) p.2
  | _ => none
theorem w_X1_hasCut : ∀ w ∈ [Cond.instanceMethod yX1_hasCut, .selects yX1_hasCut.cls yX1_hasCut yX1_hasCut, .initialized yX1_hasCut.cls, .code yX1_hasCut cX1_hasCut 3 (some .boolean)], w ∈ lw_good := List.forall_mem_cons.mpr ⟨lw_good_of (tb_ok 813 (by decide +kernel)) rfl, List.forall_mem_cons.mpr ⟨lw_good_of (tb_ok 814 (by decide +kernel)) rfl, List.forall_mem_cons.mpr ⟨lw_good_of (tb_ok 10 (by decide +kernel)) rfl, List.forall_mem_cons.mpr ⟨lw_good_of (tb_ok 815 (by decide +kernel)) rfl, fun _ h => absurd h List.not_mem_nil⟩⟩⟩⟩
theorem n_X1_hasCut_ok {R' : Type} {q : cL} {own : String} {d k : Nat} {f : Nat → Int32 → Int32 → cM → Option (Int32 × cM)} (hl : Cond.methodLink own k yX1_hasCut ∈ lw_good) (hf : ∀ a0 a1 a2 M r, f a0 a1 a2 M = some r → CTx q yX1_hasCut (.code yX1_hasCut cX1_hasCut 3 (some .boolean)) d [.ref a0, .int a1, .int a2] M (eI r) ∧ ∃ fs, M[a0]? = some (.inr (0, fs))) : ceS q own d (3 * k + 1) (n_X1_hasCut (R' := R') f) := by
  intro as M κ κx r h
  unfold n_X1_hasCut at h
  split at h
  · obtain ⟨p, h1, h2⟩ := Option.bind_eq_some_iff.mp h
    obtain ⟨hc, fs, ha⟩ := hf _ _ _ _ _ h1
    exact ⟨eI p, fun _ => h2, fun hne => absurd rfl hne, Or.inr (Or.inl ⟨yX1_hasCut, cX1_hasCut, 3, (some .boolean), k, 2, _, _, 0, TX1, 8, fs, rfl, rfl, hc, ha, rfl, List.forall_mem_cons.mpr ⟨hl, w_X1_hasCut⟩, ⟨rfl, by decide +kernel, by decide +kernel, by decide +kernel⟩, rfl, by decide⟩)⟩
  · cases h
-- PatchbayScript$Board.placesOfCut(III)I
def T_X1_placesOfCut : List cRow := [(0, .aload_n 0, 1, 0), (1, .iload_n 1, 2, 0), (2, .iload_n 2, 3, 0), (3, .invokevirtual 80, 6, 0), (6, .ifCond .eq 32, 9, 38), (9, .aload_n 0, 10, 0), (10, .getfield 30, 13, 0), (13, .iload_n 3, 14, 0), (14, .bipush 21, 16, 0), (16, .imul, 17, 0), (17, .aload_n 0, 18, 0), (18, .getfield 19, 21, 0), (21, .iload_n 1, 22, 0), (22, .iaload, 23, 0), (23, .iadd, 24, 0), (24, .bipush 21, 26, 0), (26, .imul, 27, 0), (27, .aload_n 0, 28, 0), (28, .getfield 19, 31, 0), (31, .iload_n 2, 32, 0), (32, .iaload, 33, 0), (33, .iadd, 34, 0), (34, .iaload, 35, 0), (35, .goto 4, 38, 39), (38, .iconst 0, 39, 0), (39, .ireturn, 40, 0)]
theorem T_X1_placesOfCut_ok : T_X1_placesOfCut.all (rowB cX1_placesOfCut) = true := by decide +kernel
def th_X1_placesOfCut : List (Nat × Nat) := []
def sw_X1_placesOfCut : List (Nat × (List (Int32 × Nat) × Nat)) := []
theorem sw_X1_placesOfCut_ok : ∀ q ∈ sw_X1_placesOfCut, swS cX1_placesOfCut q := fun _ h => absurd h List.not_mem_nil
def na_X1_placesOfCut : List (Nat × Nat) := [(241, 3)]
def ca_X1_placesOfCut {R' : Type} (F : Nat) : List (Nat × cFn R') := [(241, n_X1_hasCut (f_X1_hasCut F))]
theorem ca_X1_placesOfCut_ok {R' : Type} {q : cL} (hst : q.1.stackTraces = false) {D : Nat} (hD : 1 ≤ D) (F : Nat) : ∀ x ∈ (ca_X1_placesOfCut (R' := R') F), 1 ≤ D ∧ ceS q RX1 (D - 1) x.1 x.2 := List.forall_mem_cons.mpr ⟨⟨by omega, n_X1_hasCut_ok (k := 80) (lw_good_of (tb_ok 820 (by decide +kernel)) rfl) (fun a0 a1 a2 M r h => c_X1_hasCut hst (by omega) F a0 a1 a2 M r h)⟩, fun _ h => absurd h List.not_mem_nil⟩
theorem e_X1_placesOfCut_0 (F : Nat) (x0 : Nat) (x1 : Int32) (x2 : Int32) (x3 : Int32) (M : cM) : b_X1_placesOfCut_0 F x0 x1 x2 x3 M = run T_X1_placesOfCut P_RX1 false 0 (naL na_X1_placesOfCut) (caL (ca_X1_placesOfCut F)) (lkN th_X1_placesOfCut) (lkN sw_X1_placesOfCut) krI kxN (spL []) (KL []) 29 0 [some (.ref x0), some (.int x1), some (.int x2), some (.int x3)] [] M := rfl
theorem ok_X1_placesOfCut_0 {X : cCtx} {D : Nat} {r : Int32 × cM} (G : FX X 4 (eI r) cX1_placesOfCut RX1 0 D) {F : Nat} (hca : ∀ x ∈ (ca_X1_placesOfCut (R' := Int32 × cM) F), 1 ≤ D ∧ ceS X.1 RX1 (D - 1) x.1 x.2) : ∀ x0 x1 x2 x3 M, f_X1_placesOfCut_0 F x0 x1 x2 x3 M = some r → WX X 4 (eI r) 0 [some (.ref x0), some (.int x1), some (.int x2), some (.int x3)] [] M := by
  intro x0 x1 x2 x3 M h
  exact seg_ok G P_RX1_ok T_X1_placesOfCut_ok hca (fun _ h => absurd h List.not_mem_nil) sw_X1_placesOfCut_ok krI_ok (kxN_ok (f := eI)) (fun _ h => absurd h List.not_mem_nil) ((e_X1_placesOfCut_0 F x0 x1 x2 x3 M).symm.trans h)
theorem c_X1_placesOfCut {q : cL} (hst : q.1.stackTraces = false) {D : Nat} (hD : 1 ≤ D) (F : Nat) (a0 : Nat) (a1 : Int32) (a2 : Int32) (a3 : Int32) (M : cM) (r : Int32 × cM) (h : f_X1_placesOfCut F a0 a1 a2 a3 M = some r) : CTx q yX1_placesOfCut (.code yX1_placesOfCut cX1_placesOfCut 4 (some .int)) D [.ref a0, .int a1, .int a2, .int a3] M (eI r) ∧ ∃ fs, M[a0]? = some (.inr (0, fs)) := by
  unfold f_X1_placesOfCut at h
  split at h
  · next hi => exact ⟨CTx_of (own := RX1) (rk := 0) hst (by decide +kernel) rfl (rfl) (Nat.le_of_ble_eq_true rfl) (fun X hX G => by subst hX; exact ok_X1_placesOfCut_0 G (ca_X1_placesOfCut_ok hst hD F) a0 a1 a2 a3 M h), isC_of hi⟩
  · cases h
def n_X1_placesOfCut {R' : Type} (f : Nat → Int32 → Int32 → Int32 → cM → Option (Int32 × cM)) : cFn R' := fun as M κ κx => match as with
  | [.ref a0, .int a1, .int a2, .int a3] => (f a0 a1 a2 a3 M).bind fun p => κ (some (.int p.1)) p.2
  | _ => none
theorem w_X1_placesOfCut : ∀ w ∈ [Cond.instanceMethod yX1_placesOfCut, .selects yX1_placesOfCut.cls yX1_placesOfCut yX1_placesOfCut, .initialized yX1_placesOfCut.cls, .code yX1_placesOfCut cX1_placesOfCut 4 (some .int)], w ∈ lw_good := List.forall_mem_cons.mpr ⟨lw_good_of (tb_ok 817 (by decide +kernel)) rfl, List.forall_mem_cons.mpr ⟨lw_good_of (tb_ok 818 (by decide +kernel)) rfl, List.forall_mem_cons.mpr ⟨lw_good_of (tb_ok 10 (by decide +kernel)) rfl, List.forall_mem_cons.mpr ⟨lw_good_of (tb_ok 819 (by decide +kernel)) rfl, fun _ h => absurd h List.not_mem_nil⟩⟩⟩⟩
theorem n_X1_placesOfCut_ok {R' : Type} {q : cL} {own : String} {d k : Nat} {f : Nat → Int32 → Int32 → Int32 → cM → Option (Int32 × cM)} (hl : Cond.methodLink own k yX1_placesOfCut ∈ lw_good) (hf : ∀ a0 a1 a2 a3 M r, f a0 a1 a2 a3 M = some r → CTx q yX1_placesOfCut (.code yX1_placesOfCut cX1_placesOfCut 4 (some .int)) d [.ref a0, .int a1, .int a2, .int a3] M (eI r) ∧ ∃ fs, M[a0]? = some (.inr (0, fs))) : ceS q own d (3 * k + 1) (n_X1_placesOfCut (R' := R') f) := by
  intro as M κ κx r h
  unfold n_X1_placesOfCut at h
  split at h
  · obtain ⟨p, h1, h2⟩ := Option.bind_eq_some_iff.mp h
    obtain ⟨hc, fs, ha⟩ := hf _ _ _ _ _ _ h1
    exact ⟨eI p, fun _ => h2, fun hne => absurd rfl hne, Or.inr (Or.inl ⟨yX1_placesOfCut, cX1_placesOfCut, 4, (some .int), k, 3, _, _, 0, TX1, 8, fs, rfl, rfl, hc, ha, rfl, List.forall_mem_cons.mpr ⟨hl, w_X1_placesOfCut⟩, ⟨rfl, by decide +kernel, by decide +kernel, by decide +kernel⟩, rfl, by decide⟩)⟩
  · cases h
-- PatchbayScript$Board.sizeOfCut(II)I
def T_X1_sizeOfCut : List cRow := [(0, .aload_n 0, 1, 0), (1, .getfield 19, 4, 0), (4, .iload_n 2, 5, 0), (5, .iaload, 6, 0), (6, .aload_n 0, 7, 0), (7, .getfield 19, 10, 0), (10, .iload_n 1, 11, 0), (11, .iaload, 12, 0), (12, .isub, 13, 0), (13, .ireturn, 14, 0)]
theorem T_X1_sizeOfCut_ok : T_X1_sizeOfCut.all (rowB cX1_sizeOfCut) = true := by decide +kernel
def th_X1_sizeOfCut : List (Nat × Nat) := []
def sw_X1_sizeOfCut : List (Nat × (List (Int32 × Nat) × Nat)) := []
theorem sw_X1_sizeOfCut_ok : ∀ q ∈ sw_X1_sizeOfCut, swS cX1_sizeOfCut q := fun _ h => absurd h List.not_mem_nil
def na_X1_sizeOfCut : List (Nat × Nat) := []
def ca_X1_sizeOfCut {R' : Type} (F : Nat) : List (Nat × cFn R') := []
theorem ca_X1_sizeOfCut_ok {R' : Type} {q : cL} (hst : q.1.stackTraces = false) {D : Nat} (hD : 0 ≤ D) (F : Nat) : ∀ x ∈ (ca_X1_sizeOfCut (R' := R') F), 1 ≤ D ∧ ceS q RX1 (D - 1) x.1 x.2 := fun _ h => absurd h List.not_mem_nil
theorem e_X1_sizeOfCut_0 (F : Nat) (x0 : Nat) (x1 : Int32) (x2 : Int32) (M : cM) : b_X1_sizeOfCut_0 F x0 x1 x2 M = run T_X1_sizeOfCut P_RX1 false 0 (naL na_X1_sizeOfCut) (caL (ca_X1_sizeOfCut F)) (lkN th_X1_sizeOfCut) (lkN sw_X1_sizeOfCut) krI kxN (spL []) (KL []) 13 0 [some (.ref x0), some (.int x1), some (.int x2)] [] M := rfl
theorem ok_X1_sizeOfCut_0 {X : cCtx} {D : Nat} {r : Int32 × cM} (G : FX X 3 (eI r) cX1_sizeOfCut RX1 0 D) {F : Nat} (hca : ∀ x ∈ (ca_X1_sizeOfCut (R' := Int32 × cM) F), 1 ≤ D ∧ ceS X.1 RX1 (D - 1) x.1 x.2) : ∀ x0 x1 x2 M, f_X1_sizeOfCut_0 F x0 x1 x2 M = some r → WX X 3 (eI r) 0 [some (.ref x0), some (.int x1), some (.int x2)] [] M := by
  intro x0 x1 x2 M h
  exact seg_ok G P_RX1_ok T_X1_sizeOfCut_ok hca (fun _ h => absurd h List.not_mem_nil) sw_X1_sizeOfCut_ok krI_ok (kxN_ok (f := eI)) (fun _ h => absurd h List.not_mem_nil) ((e_X1_sizeOfCut_0 F x0 x1 x2 M).symm.trans h)
theorem c_X1_sizeOfCut {q : cL} (hst : q.1.stackTraces = false) {D : Nat} (hD : 0 ≤ D) (F : Nat) (a0 : Nat) (a1 : Int32) (a2 : Int32) (M : cM) (r : Int32 × cM) (h : f_X1_sizeOfCut F a0 a1 a2 M = some r) : CTx q yX1_sizeOfCut (.code yX1_sizeOfCut cX1_sizeOfCut 3 (some .int)) D [.ref a0, .int a1, .int a2] M (eI r) ∧ ∃ fs, M[a0]? = some (.inr (0, fs)) := by
  unfold f_X1_sizeOfCut at h
  split at h
  · next hi => exact ⟨CTx_of (own := RX1) (rk := 0) hst (by decide +kernel) rfl (rfl) (Nat.le_of_ble_eq_true rfl) (fun X hX G => by subst hX; exact ok_X1_sizeOfCut_0 G (ca_X1_sizeOfCut_ok hst hD F) a0 a1 a2 M h), isC_of hi⟩
  · cases h
def n_X1_sizeOfCut {R' : Type} (f : Nat → Int32 → Int32 → cM → Option (Int32 × cM)) : cFn R' := fun as M κ κx => match as with
  | [.ref a0, .int a1, .int a2] => (f a0 a1 a2 M).bind fun p => κ (some (.int p.1)) p.2
  | _ => none
theorem w_X1_sizeOfCut : ∀ w ∈ [Cond.instanceMethod yX1_sizeOfCut, .selects yX1_sizeOfCut.cls yX1_sizeOfCut yX1_sizeOfCut, .initialized yX1_sizeOfCut.cls, .code yX1_sizeOfCut cX1_sizeOfCut 3 (some .int)], w ∈ lw_good := List.forall_mem_cons.mpr ⟨lw_good_of (tb_ok 822 (by decide +kernel)) rfl, List.forall_mem_cons.mpr ⟨lw_good_of (tb_ok 823 (by decide +kernel)) rfl, List.forall_mem_cons.mpr ⟨lw_good_of (tb_ok 10 (by decide +kernel)) rfl, List.forall_mem_cons.mpr ⟨lw_good_of (tb_ok 824 (by decide +kernel)) rfl, fun _ h => absurd h List.not_mem_nil⟩⟩⟩⟩
theorem n_X1_sizeOfCut_ok {R' : Type} {q : cL} {own : String} {d k : Nat} {f : Nat → Int32 → Int32 → cM → Option (Int32 × cM)} (hl : Cond.methodLink own k yX1_sizeOfCut ∈ lw_good) (hf : ∀ a0 a1 a2 M r, f a0 a1 a2 M = some r → CTx q yX1_sizeOfCut (.code yX1_sizeOfCut cX1_sizeOfCut 3 (some .int)) d [.ref a0, .int a1, .int a2] M (eI r) ∧ ∃ fs, M[a0]? = some (.inr (0, fs))) : ceS q own d (3 * k + 1) (n_X1_sizeOfCut (R' := R') f) := by
  intro as M κ κx r h
  unfold n_X1_sizeOfCut at h
  split at h
  · obtain ⟨p, h1, h2⟩ := Option.bind_eq_some_iff.mp h
    obtain ⟨hc, fs, ha⟩ := hf _ _ _ _ _ h1
    exact ⟨eI p, fun _ => h2, fun hne => absurd rfl hne, Or.inr (Or.inl ⟨yX1_sizeOfCut, cX1_sizeOfCut, 3, (some .int), k, 2, _, _, 0, TX1, 8, fs, rfl, rfl, hc, ha, rfl, List.forall_mem_cons.mpr ⟨hl, w_X1_sizeOfCut⟩, ⟨rfl, by decide +kernel, by decide +kernel, by decide +kernel⟩, rfl, by decide⟩)⟩
  · cases h
-- PatchbayScript$Board.placesOfEach(I)I
def T_X1_placesOfEach : List cRow := [(0, .iload_n 1, 1, 0), (1, .ifCond .lt 18, 4, 19), (4, .iload_n 1, 5, 0), (5, .bipush 72, 7, 0), (7, .if_icmp .ge 12, 10, 19), (10, .aload_n 0, 11, 0), (11, .getfield 33, 14, 0), (14, .iload_n 1, 15, 0), (15, .iaload, 16, 0), (16, .goto 4, 19, 20), (19, .iconst 0, 20, 0), (20, .ireturn, 21, 0)]
theorem T_X1_placesOfEach_ok : T_X1_placesOfEach.all (rowB cX1_placesOfEach) = true := by decide +kernel
def th_X1_placesOfEach : List (Nat × Nat) := []
def sw_X1_placesOfEach : List (Nat × (List (Int32 × Nat) × Nat)) := []
theorem sw_X1_placesOfEach_ok : ∀ q ∈ sw_X1_placesOfEach, swS cX1_placesOfEach q := fun _ h => absurd h List.not_mem_nil
def na_X1_placesOfEach : List (Nat × Nat) := []
def ca_X1_placesOfEach {R' : Type} (F : Nat) : List (Nat × cFn R') := []
theorem ca_X1_placesOfEach_ok {R' : Type} {q : cL} (hst : q.1.stackTraces = false) {D : Nat} (hD : 0 ≤ D) (F : Nat) : ∀ x ∈ (ca_X1_placesOfEach (R' := R') F), 1 ≤ D ∧ ceS q RX1 (D - 1) x.1 x.2 := fun _ h => absurd h List.not_mem_nil
theorem e_X1_placesOfEach_0 (F : Nat) (x0 : Nat) (x1 : Int32) (M : cM) : b_X1_placesOfEach_0 F x0 x1 M = run T_X1_placesOfEach P_RX1 false 0 (naL na_X1_placesOfEach) (caL (ca_X1_placesOfEach F)) (lkN th_X1_placesOfEach) (lkN sw_X1_placesOfEach) krI kxN (spL []) (KL []) 15 0 [some (.ref x0), some (.int x1)] [] M := rfl
theorem ok_X1_placesOfEach_0 {X : cCtx} {D : Nat} {r : Int32 × cM} (G : FX X 2 (eI r) cX1_placesOfEach RX1 0 D) {F : Nat} (hca : ∀ x ∈ (ca_X1_placesOfEach (R' := Int32 × cM) F), 1 ≤ D ∧ ceS X.1 RX1 (D - 1) x.1 x.2) : ∀ x0 x1 M, f_X1_placesOfEach_0 F x0 x1 M = some r → WX X 2 (eI r) 0 [some (.ref x0), some (.int x1)] [] M := by
  intro x0 x1 M h
  exact seg_ok G P_RX1_ok T_X1_placesOfEach_ok hca (fun _ h => absurd h List.not_mem_nil) sw_X1_placesOfEach_ok krI_ok (kxN_ok (f := eI)) (fun _ h => absurd h List.not_mem_nil) ((e_X1_placesOfEach_0 F x0 x1 M).symm.trans h)
theorem c_X1_placesOfEach {q : cL} (hst : q.1.stackTraces = false) {D : Nat} (hD : 0 ≤ D) (F : Nat) (a0 : Nat) (a1 : Int32) (M : cM) (r : Int32 × cM) (h : f_X1_placesOfEach F a0 a1 M = some r) : CTx q yX1_placesOfEach (.code yX1_placesOfEach cX1_placesOfEach 2 (some .int)) D [.ref a0, .int a1] M (eI r) ∧ ∃ fs, M[a0]? = some (.inr (0, fs)) := by
  unfold f_X1_placesOfEach at h
  split at h
  · next hi => exact ⟨CTx_of (own := RX1) (rk := 0) hst (by decide +kernel) rfl (rfl) (Nat.le_of_ble_eq_true rfl) (fun X hX G => by subst hX; exact ok_X1_placesOfEach_0 G (ca_X1_placesOfEach_ok hst hD F) a0 a1 M h), isC_of hi⟩
  · cases h
def n_X1_placesOfEach {R' : Type} (f : Nat → Int32 → cM → Option (Int32 × cM)) : cFn R' := fun as M κ κx => match as with
  | [.ref a0, .int a1] => (f a0 a1 M).bind fun p => κ (some (.int p.1)) p.2
  | _ => none
theorem w_X1_placesOfEach : ∀ w ∈ [Cond.instanceMethod yX1_placesOfEach, .selects yX1_placesOfEach.cls yX1_placesOfEach yX1_placesOfEach, .initialized yX1_placesOfEach.cls, .code yX1_placesOfEach cX1_placesOfEach 2 (some .int)], w ∈ lw_good := List.forall_mem_cons.mpr ⟨lw_good_of (tb_ok 856 (by decide +kernel)) rfl, List.forall_mem_cons.mpr ⟨lw_good_of (tb_ok 857 (by decide +kernel)) rfl, List.forall_mem_cons.mpr ⟨lw_good_of (tb_ok 10 (by decide +kernel)) rfl, List.forall_mem_cons.mpr ⟨lw_good_of (tb_ok 858 (by decide +kernel)) rfl, fun _ h => absurd h List.not_mem_nil⟩⟩⟩⟩
theorem n_X1_placesOfEach_ok {R' : Type} {q : cL} {own : String} {d k : Nat} {f : Nat → Int32 → cM → Option (Int32 × cM)} (hl : Cond.methodLink own k yX1_placesOfEach ∈ lw_good) (hf : ∀ a0 a1 M r, f a0 a1 M = some r → CTx q yX1_placesOfEach (.code yX1_placesOfEach cX1_placesOfEach 2 (some .int)) d [.ref a0, .int a1] M (eI r) ∧ ∃ fs, M[a0]? = some (.inr (0, fs))) : ceS q own d (3 * k + 1) (n_X1_placesOfEach (R' := R') f) := by
  intro as M κ κx r h
  unfold n_X1_placesOfEach at h
  split at h
  · obtain ⟨p, h1, h2⟩ := Option.bind_eq_some_iff.mp h
    obtain ⟨hc, fs, ha⟩ := hf _ _ _ _ h1
    exact ⟨eI p, fun _ => h2, fun hne => absurd rfl hne, Or.inr (Or.inl ⟨yX1_placesOfEach, cX1_placesOfEach, 2, (some .int), k, 1, _, _, 0, TX1, 8, fs, rfl, rfl, hc, ha, rfl, List.forall_mem_cons.mpr ⟨hl, w_X1_placesOfEach⟩, ⟨rfl, by decide +kernel, by decide +kernel, by decide +kernel⟩, rfl, by decide⟩)⟩
  · cases h
-- PatchbayScript$Board.sizeOfEach(I)I
def T_X1_sizeOfEach : List cRow := [(0, .iload_n 1, 1, 0), (1, .ifCond .lt 18, 4, 19), (4, .iload_n 1, 5, 0), (5, .bipush 72, 7, 0), (7, .if_icmp .ge 12, 10, 19), (10, .aload_n 0, 11, 0), (11, .getfield 36, 14, 0), (14, .iload_n 1, 15, 0), (15, .iaload, 16, 0), (16, .goto 4, 19, 20), (19, .iconst 0, 20, 0), (20, .ireturn, 21, 0)]
theorem T_X1_sizeOfEach_ok : T_X1_sizeOfEach.all (rowB cX1_sizeOfEach) = true := by decide +kernel
def th_X1_sizeOfEach : List (Nat × Nat) := []
def sw_X1_sizeOfEach : List (Nat × (List (Int32 × Nat) × Nat)) := []
theorem sw_X1_sizeOfEach_ok : ∀ q ∈ sw_X1_sizeOfEach, swS cX1_sizeOfEach q := fun _ h => absurd h List.not_mem_nil
def na_X1_sizeOfEach : List (Nat × Nat) := []
def ca_X1_sizeOfEach {R' : Type} (F : Nat) : List (Nat × cFn R') := []
theorem ca_X1_sizeOfEach_ok {R' : Type} {q : cL} (hst : q.1.stackTraces = false) {D : Nat} (hD : 0 ≤ D) (F : Nat) : ∀ x ∈ (ca_X1_sizeOfEach (R' := R') F), 1 ≤ D ∧ ceS q RX1 (D - 1) x.1 x.2 := fun _ h => absurd h List.not_mem_nil
theorem e_X1_sizeOfEach_0 (F : Nat) (x0 : Nat) (x1 : Int32) (M : cM) : b_X1_sizeOfEach_0 F x0 x1 M = run T_X1_sizeOfEach P_RX1 false 0 (naL na_X1_sizeOfEach) (caL (ca_X1_sizeOfEach F)) (lkN th_X1_sizeOfEach) (lkN sw_X1_sizeOfEach) krI kxN (spL []) (KL []) 15 0 [some (.ref x0), some (.int x1)] [] M := rfl
theorem ok_X1_sizeOfEach_0 {X : cCtx} {D : Nat} {r : Int32 × cM} (G : FX X 2 (eI r) cX1_sizeOfEach RX1 0 D) {F : Nat} (hca : ∀ x ∈ (ca_X1_sizeOfEach (R' := Int32 × cM) F), 1 ≤ D ∧ ceS X.1 RX1 (D - 1) x.1 x.2) : ∀ x0 x1 M, f_X1_sizeOfEach_0 F x0 x1 M = some r → WX X 2 (eI r) 0 [some (.ref x0), some (.int x1)] [] M := by
  intro x0 x1 M h
  exact seg_ok G P_RX1_ok T_X1_sizeOfEach_ok hca (fun _ h => absurd h List.not_mem_nil) sw_X1_sizeOfEach_ok krI_ok (kxN_ok (f := eI)) (fun _ h => absurd h List.not_mem_nil) ((e_X1_sizeOfEach_0 F x0 x1 M).symm.trans h)
theorem c_X1_sizeOfEach {q : cL} (hst : q.1.stackTraces = false) {D : Nat} (hD : 0 ≤ D) (F : Nat) (a0 : Nat) (a1 : Int32) (M : cM) (r : Int32 × cM) (h : f_X1_sizeOfEach F a0 a1 M = some r) : CTx q yX1_sizeOfEach (.code yX1_sizeOfEach cX1_sizeOfEach 2 (some .int)) D [.ref a0, .int a1] M (eI r) ∧ ∃ fs, M[a0]? = some (.inr (0, fs)) := by
  unfold f_X1_sizeOfEach at h
  split at h
  · next hi => exact ⟨CTx_of (own := RX1) (rk := 0) hst (by decide +kernel) rfl (rfl) (Nat.le_of_ble_eq_true rfl) (fun X hX G => by subst hX; exact ok_X1_sizeOfEach_0 G (ca_X1_sizeOfEach_ok hst hD F) a0 a1 M h), isC_of hi⟩
  · cases h
def n_X1_sizeOfEach {R' : Type} (f : Nat → Int32 → cM → Option (Int32 × cM)) : cFn R' := fun as M κ κx => match as with
  | [.ref a0, .int a1] => (f a0 a1 M).bind fun p => κ (some (.int p.1)) p.2
  | _ => none
theorem w_X1_sizeOfEach : ∀ w ∈ [Cond.instanceMethod yX1_sizeOfEach, .selects yX1_sizeOfEach.cls yX1_sizeOfEach yX1_sizeOfEach, .initialized yX1_sizeOfEach.cls, .code yX1_sizeOfEach cX1_sizeOfEach 2 (some .int)], w ∈ lw_good := List.forall_mem_cons.mpr ⟨lw_good_of (tb_ok 860 (by decide +kernel)) rfl, List.forall_mem_cons.mpr ⟨lw_good_of (tb_ok 861 (by decide +kernel)) rfl, List.forall_mem_cons.mpr ⟨lw_good_of (tb_ok 10 (by decide +kernel)) rfl, List.forall_mem_cons.mpr ⟨lw_good_of (tb_ok 862 (by decide +kernel)) rfl, fun _ h => absurd h List.not_mem_nil⟩⟩⟩⟩
theorem n_X1_sizeOfEach_ok {R' : Type} {q : cL} {own : String} {d k : Nat} {f : Nat → Int32 → cM → Option (Int32 × cM)} (hl : Cond.methodLink own k yX1_sizeOfEach ∈ lw_good) (hf : ∀ a0 a1 M r, f a0 a1 M = some r → CTx q yX1_sizeOfEach (.code yX1_sizeOfEach cX1_sizeOfEach 2 (some .int)) d [.ref a0, .int a1] M (eI r) ∧ ∃ fs, M[a0]? = some (.inr (0, fs))) : ceS q own d (3 * k + 1) (n_X1_sizeOfEach (R' := R') f) := by
  intro as M κ κx r h
  unfold n_X1_sizeOfEach at h
  split at h
  · obtain ⟨p, h1, h2⟩ := Option.bind_eq_some_iff.mp h
    obtain ⟨hc, fs, ha⟩ := hf _ _ _ _ h1
    exact ⟨eI p, fun _ => h2, fun hne => absurd rfl hne, Or.inr (Or.inl ⟨yX1_sizeOfEach, cX1_sizeOfEach, 2, (some .int), k, 1, _, _, 0, TX1, 8, fs, rfl, rfl, hc, ha, rfl, List.forall_mem_cons.mpr ⟨hl, w_X1_sizeOfEach⟩, ⟨rfl, by decide +kernel, by decide +kernel, by decide +kernel⟩, rfl, by decide⟩)⟩
  · cases h
-- PatchbayScript$Finder.lookAt(LPatchbayScript$Task;)V
def T_X2_lookAt : List cRow := [(0, .aload_n 0, 1, 0), (1, .getfield 54, 4, 0), (4, .aload_n 1, 5, 0), (5, .if_acmp .eq 13, 8, 18), (8, .aload_n 0, 9, 0), (9, .aload_n 1, 10, 0), (10, .putfield 54, 13, 0), (13, .aload_n 0, 14, 0), (14, .iconst 0, 15, 0), (15, .putfield 58, 18, 0), (18, .aload_n 0, 19, 0), (19, .getfield 58, 22, 0), (22, .aload_n 1, 23, 0), (23, .getfield 62, 26, 0), (26, .if_icmp .ge 57, 29, 83), (29, .aload_n 0, 30, 0), (30, .getfield 58, 33, 0), (33, .iconst 4, 34, 0), (34, .if_icmp .ge 49, 37, 83), (37, .aload_n 0, 38, 0), (38, .getfield 26, 41, 0), (41, .getfield 65, 44, 0), (44, .aload_n 0, 45, 0), (45, .getfield 58, 48, 0), (48, .aaload, 49, 0), (49, .aload_n 1, 50, 0), (50, .getfield 69, 53, 0), (53, .aload_n 0, 54, 0), (54, .getfield 58, 57, 0), (57, .aaload, 58, 0), (58, .aload_n 1, 59, 0), (59, .getfield 73, 62, 0), (62, .aload_n 0, 63, 0), (63, .getfield 58, 66, 0), (66, .aaload, 67, 0), (67, .invokevirtual 76, 70, 0), (70, .aload_n 0, 71, 0), (71, .dup, 72, 0), (72, .getfield 58, 75, 0), (75, .iconst 1, 76, 0), (76, .iadd, 77, 0), (77, .putfield 58, 80, 0), (80, .goto (-62), 83, 18), (83, .aload_n 0, 84, 0), (84, .iconst 0, 85, 0), (85, .putfield 82, 88, 0), (88, .iconst 0, 89, 0), (89, .istore_n 2, 90, 0), (90, .iload_n 2, 91, 0), (91, .iconst 4, 92, 0), (92, .if_icmp .ge 45, 95, 137), (95, .aload_n 0, 96, 0), (96, .getfield 30, 99, 0), (99, .iload_n 2, 100, 0), (100, .aload_n 1, 101, 0), (101, .getfield 86, 104, 0), (104, .iload_n 2, 105, 0), (105, .iaload, 106, 0), (106, .iastore, 107, 0), (107, .aload_n 0, 108, 0), (108, .dup, 109, 0), (109, .getfield 82, 112, 0), (112, .aload_n 0, 113, 0), (113, .getfield 30, 116, 0), (116, .iload_n 2, 117, 0), (117, .iaload, 118, 0), (118, .iconst (-1), 119, 0), (119, .if_icmp .eq 7, 122, 126), (122, .iconst 1, 123, 0), (123, .goto 4, 126, 127), (126, .iconst 0, 127, 0), (127, .ior, 128, 0), (128, .putfield 82, 131, 0), (131, .iinc 2 1, 134, 0), (134, .goto (-44), 137, 90), (137, .return_, 138, 0)]
theorem T_X2_lookAt_ok : T_X2_lookAt.all (rowB cX2_lookAt) = true := by decide +kernel
def th_X2_lookAt : List (Nat × Nat) := []
def sw_X2_lookAt : List (Nat × (List (Int32 × Nat) × Nat)) := []
theorem sw_X2_lookAt_ok : ∀ q ∈ sw_X2_lookAt, swS cX2_lookAt q := fun _ h => absurd h List.not_mem_nil
def na_X2_lookAt : List (Nat × Nat) := [(229, 3)]
def ca_X2_lookAt {R' : Type} (F : Nat) : List (Nat × cFn R') := [(229, n_X1_lookAt (f_X1_lookAt F))]
theorem ca_X2_lookAt_ok {R' : Type} {q : cL} (hst : q.1.stackTraces = false) {D : Nat} (hD : 5 ≤ D) (F : Nat) : ∀ x ∈ (ca_X2_lookAt (R' := R') F), 1 ≤ D ∧ ceS q RX2 (D - 1) x.1 x.2 := List.forall_mem_cons.mpr ⟨⟨by omega, n_X1_lookAt_ok (k := 76) (lw_good_of (tb_ok 774 (by decide +kernel)) rfl) (fun a0 a1 a2 M r h => c_X1_lookAt hst (by omega) F a0 a1 a2 M r h)⟩, fun _ h => absurd h List.not_mem_nil⟩
def kd_X2_lookAt_18 (g : Nat → Nat → cM → Option (cM)) : cKf (cM) := fun vs st M => (lR vs 0).bind fun x0 => (lR vs 1).bind fun x1 => match st with
  | [] => g x0 x1 M
  | _ => none
theorem kf_X2_lookAt_18 {X : cCtx} {o : cO} {r : cM} {g : Nat → Nat → cM → Option (cM)} (hg : ∀ x0 x1 M, g x0 x1 M = some r → WX X 3 o 18 [some (.ref x0), some (.ref x1), none] [] M) : ∀ vs st M, kd_X2_lookAt_18 g vs st M = some r → WX X 3 o 18 vs st M := by
  intro vs st M h
  unfold kd_X2_lookAt_18 at h
  obtain ⟨x0, h0, h⟩ := Option.bind_eq_some_iff.mp h
  obtain ⟨x1, h1, h⟩ := Option.bind_eq_some_iff.mp h
  split at h
  · exact WX_weak (hg _ _ _ h) rfl ⟨lR_of h0, lR_of h1, trivial⟩
  · cases h
def kd_X2_lookAt_90 (g : Nat → Nat → Int32 → cM → Option (cM)) : cKf (cM) := fun vs st M => (lR vs 0).bind fun x0 => (lR vs 1).bind fun x1 => (lI vs 2).bind fun x2 => match st with
  | [] => g x0 x1 x2 M
  | _ => none
theorem kf_X2_lookAt_90 {X : cCtx} {o : cO} {r : cM} {g : Nat → Nat → Int32 → cM → Option (cM)} (hg : ∀ x0 x1 x2 M, g x0 x1 x2 M = some r → WX X 3 o 90 [some (.ref x0), some (.ref x1), some (.int x2)] [] M) : ∀ vs st M, kd_X2_lookAt_90 g vs st M = some r → WX X 3 o 90 vs st M := by
  intro vs st M h
  unfold kd_X2_lookAt_90 at h
  obtain ⟨x0, h0, h⟩ := Option.bind_eq_some_iff.mp h
  obtain ⟨x1, h1, h⟩ := Option.bind_eq_some_iff.mp h
  obtain ⟨x2, h2, h⟩ := Option.bind_eq_some_iff.mp h
  split at h
  · exact WX_weak (hg _ _ _ _ h) rfl ⟨lR_of h0, lR_of h1, lI_of h2, trivial⟩
  · cases h
theorem e_X2_lookAt_90 (F : Nat) (t90 : Nat → Nat → Int32 → cM → Option (cM)) (x0 : Nat) (x1 : Nat) (x2 : Int32) (M : cM) : b_X2_lookAt_90 F t90 x0 x1 x2 M = run T_X2_lookAt P_RX2 false 5 (naL na_X2_lookAt) (caL (ca_X2_lookAt F)) (lkN th_X2_lookAt) (lkN sw_X2_lookAt) krV kxN (spL [90]) (KL [(90, kd_X2_lookAt_90 t90)]) 79 90 [some (.ref x0), some (.ref x1), some (.int x2)] [] M := rfl
theorem ok_X2_lookAt_90 {X : cCtx} {D : Nat} {r : cM} (G : FX X 3 (eV r) cX2_lookAt RX2 5 D) {F : Nat} (hca : ∀ x ∈ (ca_X2_lookAt (R' := cM) F), 1 ≤ D ∧ ceS X.1 RX2 (D - 1) x.1 x.2) (n : Nat) : ∀ x0 x1 x2 M, f_X2_lookAt_90 F n x0 x1 x2 M = some r → WX X 3 (eV r) 90 [some (.ref x0), some (.ref x1), some (.int x2)] [] M := by
  induction n with
  | zero => intro x0 x1 x2 M h; cases h
  | succ n ih =>
    intro x0 x1 x2 M h
    exact seg_ok G P_RX2_ok T_X2_lookAt_ok hca (fun _ h => absurd h List.not_mem_nil) sw_X2_lookAt_ok krV_ok (kxN_ok (f := eV)) (List.forall_mem_cons.mpr ⟨kf_X2_lookAt_90 (ih), fun _ h => absurd h List.not_mem_nil⟩) ((e_X2_lookAt_90 F (f_X2_lookAt_90 F n) x0 x1 x2 M).symm.trans h)
theorem e_X2_lookAt_18 (F : Nat) (t18 : Nat → Nat → cM → Option (cM)) (t90 : Nat → Nat → Int32 → cM → Option (cM)) (x0 : Nat) (x1 : Nat) (M : cM) : b_X2_lookAt_18 F t18 t90 x0 x1 M = run T_X2_lookAt P_RX2 false 5 (naL na_X2_lookAt) (caL (ca_X2_lookAt F)) (lkN th_X2_lookAt) (lkN sw_X2_lookAt) krV kxN (spL [18, 90]) (KL [(18, kd_X2_lookAt_18 t18), (90, kd_X2_lookAt_90 t90)]) 79 18 [some (.ref x0), some (.ref x1), none] [] M := rfl
theorem ok_X2_lookAt_18 {X : cCtx} {D : Nat} {r : cM} (G : FX X 3 (eV r) cX2_lookAt RX2 5 D) {F : Nat} (hca : ∀ x ∈ (ca_X2_lookAt (R' := cM) F), 1 ≤ D ∧ ceS X.1 RX2 (D - 1) x.1 x.2) (n : Nat) : ∀ x0 x1 M, f_X2_lookAt_18 F n x0 x1 M = some r → WX X 3 (eV r) 18 [some (.ref x0), some (.ref x1), none] [] M := by
  induction n with
  | zero => intro x0 x1 M h; cases h
  | succ n ih =>
    intro x0 x1 M h
    exact seg_ok G P_RX2_ok T_X2_lookAt_ok hca (fun _ h => absurd h List.not_mem_nil) sw_X2_lookAt_ok krV_ok (kxN_ok (f := eV)) (List.forall_mem_cons.mpr ⟨kf_X2_lookAt_18 (ih), List.forall_mem_cons.mpr ⟨kf_X2_lookAt_90 (ok_X2_lookAt_90 G hca F), fun _ h => absurd h List.not_mem_nil⟩⟩) ((e_X2_lookAt_18 F (f_X2_lookAt_18 F n) (f_X2_lookAt_90 F F) x0 x1 M).symm.trans h)
theorem e_X2_lookAt_0 (F : Nat) (t18 : Nat → Nat → cM → Option (cM)) (x0 : Nat) (x1 : Nat) (M : cM) : b_X2_lookAt_0 F t18 x0 x1 M = run T_X2_lookAt P_RX2 false 5 (naL na_X2_lookAt) (caL (ca_X2_lookAt F)) (lkN th_X2_lookAt) (lkN sw_X2_lookAt) krV kxN (spL [18]) (KL [(18, kd_X2_lookAt_18 t18)]) 79 0 [some (.ref x0), some (.ref x1), none] [] M := rfl
theorem ok_X2_lookAt_0 {X : cCtx} {D : Nat} {r : cM} (G : FX X 3 (eV r) cX2_lookAt RX2 5 D) {F : Nat} (hca : ∀ x ∈ (ca_X2_lookAt (R' := cM) F), 1 ≤ D ∧ ceS X.1 RX2 (D - 1) x.1 x.2) : ∀ x0 x1 M, f_X2_lookAt_0 F x0 x1 M = some r → WX X 3 (eV r) 0 [some (.ref x0), some (.ref x1), none] [] M := by
  intro x0 x1 M h
  exact seg_ok G P_RX2_ok T_X2_lookAt_ok hca (fun _ h => absurd h List.not_mem_nil) sw_X2_lookAt_ok krV_ok (kxN_ok (f := eV)) (List.forall_mem_cons.mpr ⟨kf_X2_lookAt_18 (ok_X2_lookAt_18 G hca F), fun _ h => absurd h List.not_mem_nil⟩) ((e_X2_lookAt_0 F (f_X2_lookAt_18 F F) x0 x1 M).symm.trans h)
theorem c_X2_lookAt {q : cL} (hst : q.1.stackTraces = false) {D : Nat} (hD : 5 ≤ D) (F : Nat) (a0 : Nat) (a1 : Nat) (M : cM) (r : cM) (h : f_X2_lookAt F a0 a1 M = some r) : CTx q yX2_lookAt (.code yX2_lookAt cX2_lookAt 3 none) D [.ref a0, .ref a1] M (eV r) ∧ ∃ fs, M[a0]? = some (.inr (1, fs)) := by
  unfold f_X2_lookAt at h
  split at h
  · next hi => exact ⟨CTx_of (own := RX2) (rk := 5) hst (by decide +kernel) rfl (rfl) (Nat.le_of_ble_eq_true rfl) (fun X hX G => by subst hX; exact ok_X2_lookAt_0 G (ca_X2_lookAt_ok hst hD F) a0 a1 M h), isC_of hi⟩
  · cases h
def n_X2_lookAt {R' : Type} (f : Nat → Nat → cM → Option (cM)) : cFn R' := fun as M κ κx => match as with
  | [.ref a0, .ref a1] => (f a0 a1 M).bind fun p => κ none p
  | _ => none
theorem w_X2_lookAt : ∀ w ∈ [Cond.instanceMethod yX2_lookAt, .selects yX2_lookAt.cls yX2_lookAt yX2_lookAt, .initialized yX2_lookAt.cls, .code yX2_lookAt cX2_lookAt 3 none], w ∈ lw_good := List.forall_mem_cons.mpr ⟨lw_good_of (tb_ok 771 (by decide +kernel)) rfl, List.forall_mem_cons.mpr ⟨lw_good_of (tb_ok 772 (by decide +kernel)) rfl, List.forall_mem_cons.mpr ⟨lw_good_of (tb_ok 8 (by decide +kernel)) rfl, List.forall_mem_cons.mpr ⟨lw_good_of (tb_ok 773 (by decide +kernel)) rfl, fun _ h => absurd h List.not_mem_nil⟩⟩⟩⟩
theorem n_X2_lookAt_ok {R' : Type} {q : cL} {own : String} {d k : Nat} {f : Nat → Nat → cM → Option (cM)} (hl : Cond.methodLink own k yX2_lookAt ∈ lw_good) (hf : ∀ a0 a1 M r, f a0 a1 M = some r → CTx q yX2_lookAt (.code yX2_lookAt cX2_lookAt 3 none) d [.ref a0, .ref a1] M (eV r) ∧ ∃ fs, M[a0]? = some (.inr (1, fs))) : ceS q own d (3 * k + 1) (n_X2_lookAt (R' := R') f) := by
  intro as M κ κx r h
  unfold n_X2_lookAt at h
  split at h
  · obtain ⟨p, h1, h2⟩ := Option.bind_eq_some_iff.mp h
    obtain ⟨hc, fs, ha⟩ := hf _ _ _ _ h1
    exact ⟨eV p, fun _ => h2, fun hne => absurd rfl hne, Or.inr (Or.inl ⟨yX2_lookAt, cX2_lookAt, 3, none, k, 1, _, _, 1, TX2, 14, fs, rfl, rfl, hc, ha, rfl, List.forall_mem_cons.mpr ⟨hl, w_X2_lookAt⟩, ⟨rfl, by decide +kernel, by decide +kernel, by decide +kernel⟩, rfl, by decide⟩)⟩
  · cases h
-- PatchbayScript$Stock.isLike(I)Z
def T_X8_isLike : List cRow := [(0, .iconst 0, 1, 0), (1, .istore_n 2, 2, 0), (2, .iload_n 2, 3, 0), (3, .aload_n 0, 4, 0), (4, .getfield 55, 7, 0), (7, .if_icmp .ge 59, 10, 66), (10, .aload_n 0, 11, 0), (11, .getfield 59, 14, 0), (14, .iconst 4, 15, 0), (15, .imul, 16, 0), (16, .iload_n 2, 17, 0), (17, .iadd, 18, 0), (18, .istore_n 3, 19, 0), (19, .iload_n 1, 20, 0), (20, .iconst 4, 21, 0), (21, .imul, 22, 0), (22, .iload_n 2, 23, 0), (23, .iadd, 24, 0), (24, .istore 4, 26, 0), (26, .aload_n 0, 27, 0), (27, .getfield 36, 30, 0), (30, .iload_n 3, 31, 0), (31, .iaload, 32, 0), (32, .aload_n 0, 33, 0), (33, .getfield 36, 36, 0), (36, .iload 4, 38, 0), (38, .iaload, 39, 0), (39, .if_icmp .ne 19, 42, 58), (42, .aload_n 0, 43, 0), (43, .getfield 33, 46, 0), (46, .iload_n 3, 47, 0), (47, .iaload, 48, 0), (48, .aload_n 0, 49, 0), (49, .getfield 33, 52, 0), (52, .iload 4, 54, 0), (54, .iaload, 55, 0), (55, .if_icmp .eq 5, 58, 60), (58, .iconst 0, 59, 0), (59, .ireturn, 60, 0), (60, .iinc 2 1, 63, 0), (63, .goto (-61), 66, 2), (66, .iconst 1, 67, 0), (67, .ireturn, 68, 0)]
theorem T_X8_isLike_ok : T_X8_isLike.all (rowB cX8_isLike) = true := by decide +kernel
def th_X8_isLike : List (Nat × Nat) := []
def sw_X8_isLike : List (Nat × (List (Int32 × Nat) × Nat)) := []
theorem sw_X8_isLike_ok : ∀ q ∈ sw_X8_isLike, swS cX8_isLike q := fun _ h => absurd h List.not_mem_nil
def na_X8_isLike : List (Nat × Nat) := []
def ca_X8_isLike {R' : Type} (F : Nat) : List (Nat × cFn R') := []
theorem ca_X8_isLike_ok {R' : Type} {q : cL} (hst : q.1.stackTraces = false) {D : Nat} (hD : 0 ≤ D) (F : Nat) : ∀ x ∈ (ca_X8_isLike (R' := R') F), 1 ≤ D ∧ ceS q RX8 (D - 1) x.1 x.2 := fun _ h => absurd h List.not_mem_nil
def kd_X8_isLike_2 (g : Nat → Int32 → Int32 → cM → Option (Int32 × cM)) : cKf (Int32 × cM) := fun vs st M => (lR vs 0).bind fun x0 => (lI vs 1).bind fun x1 => (lI vs 2).bind fun x2 => match st with
  | [] => g x0 x1 x2 M
  | _ => none
theorem kf_X8_isLike_2 {X : cCtx} {o : cO} {r : Int32 × cM} {g : Nat → Int32 → Int32 → cM → Option (Int32 × cM)} (hg : ∀ x0 x1 x2 M, g x0 x1 x2 M = some r → WX X 5 o 2 [some (.ref x0), some (.int x1), some (.int x2), none, none] [] M) : ∀ vs st M, kd_X8_isLike_2 g vs st M = some r → WX X 5 o 2 vs st M := by
  intro vs st M h
  unfold kd_X8_isLike_2 at h
  obtain ⟨x0, h0, h⟩ := Option.bind_eq_some_iff.mp h
  obtain ⟨x1, h1, h⟩ := Option.bind_eq_some_iff.mp h
  obtain ⟨x2, h2, h⟩ := Option.bind_eq_some_iff.mp h
  split at h
  · exact WX_weak (hg _ _ _ _ h) rfl ⟨lR_of h0, lI_of h1, lI_of h2, trivial⟩
  · cases h
theorem e_X8_isLike_2 (F : Nat) (t2 : Nat → Int32 → Int32 → cM → Option (Int32 × cM)) (x0 : Nat) (x1 : Int32) (x2 : Int32) (M : cM) : b_X8_isLike_2 F t2 x0 x1 x2 M = run T_X8_isLike P_RX8 false 1 (naL na_X8_isLike) (caL (ca_X8_isLike F)) (lkN th_X8_isLike) (lkN sw_X8_isLike) krI kxN (spL [2]) (KL [(2, kd_X8_isLike_2 t2)]) 46 2 [some (.ref x0), some (.int x1), some (.int x2), none, none] [] M := rfl
theorem ok_X8_isLike_2 {X : cCtx} {D : Nat} {r : Int32 × cM} (G : FX X 5 (eI r) cX8_isLike RX8 1 D) {F : Nat} (hca : ∀ x ∈ (ca_X8_isLike (R' := Int32 × cM) F), 1 ≤ D ∧ ceS X.1 RX8 (D - 1) x.1 x.2) (n : Nat) : ∀ x0 x1 x2 M, f_X8_isLike_2 F n x0 x1 x2 M = some r → WX X 5 (eI r) 2 [some (.ref x0), some (.int x1), some (.int x2), none, none] [] M := by
  induction n with
  | zero => intro x0 x1 x2 M h; cases h
  | succ n ih =>
    intro x0 x1 x2 M h
    exact seg_ok G P_RX8_ok T_X8_isLike_ok hca (fun _ h => absurd h List.not_mem_nil) sw_X8_isLike_ok krI_ok (kxN_ok (f := eI)) (List.forall_mem_cons.mpr ⟨kf_X8_isLike_2 (ih), fun _ h => absurd h List.not_mem_nil⟩) ((e_X8_isLike_2 F (f_X8_isLike_2 F n) x0 x1 x2 M).symm.trans h)
theorem e_X8_isLike_0 (F : Nat) (t2 : Nat → Int32 → Int32 → cM → Option (Int32 × cM)) (x0 : Nat) (x1 : Int32) (M : cM) : b_X8_isLike_0 F t2 x0 x1 M = run T_X8_isLike P_RX8 false 1 (naL na_X8_isLike) (caL (ca_X8_isLike F)) (lkN th_X8_isLike) (lkN sw_X8_isLike) krI kxN (spL [2]) (KL [(2, kd_X8_isLike_2 t2)]) 46 0 [some (.ref x0), some (.int x1), none, none, none] [] M := rfl
theorem ok_X8_isLike_0 {X : cCtx} {D : Nat} {r : Int32 × cM} (G : FX X 5 (eI r) cX8_isLike RX8 1 D) {F : Nat} (hca : ∀ x ∈ (ca_X8_isLike (R' := Int32 × cM) F), 1 ≤ D ∧ ceS X.1 RX8 (D - 1) x.1 x.2) : ∀ x0 x1 M, f_X8_isLike_0 F x0 x1 M = some r → WX X 5 (eI r) 0 [some (.ref x0), some (.int x1), none, none, none] [] M := by
  intro x0 x1 M h
  exact seg_ok G P_RX8_ok T_X8_isLike_ok hca (fun _ h => absurd h List.not_mem_nil) sw_X8_isLike_ok krI_ok (kxN_ok (f := eI)) (List.forall_mem_cons.mpr ⟨kf_X8_isLike_2 (ok_X8_isLike_2 G hca F), fun _ h => absurd h List.not_mem_nil⟩) ((e_X8_isLike_0 F (f_X8_isLike_2 F F) x0 x1 M).symm.trans h)
theorem c_X8_isLike {q : cL} (hst : q.1.stackTraces = false) {D : Nat} (hD : 0 ≤ D) (F : Nat) (a0 : Nat) (a1 : Int32) (M : cM) (r : Int32 × cM) (h : f_X8_isLike F a0 a1 M = some r) : CTx q yX8_isLike (.code yX8_isLike cX8_isLike 5 (some .boolean)) D [.ref a0, .int a1] M (eI r) ∧ ∃ fs, M[a0]? = some (.inr (6, fs)) := by
  unfold f_X8_isLike at h
  split at h
  · next hi => exact ⟨CTx_of (own := RX8) (rk := 1) hst (by decide +kernel) rfl (rfl) (Nat.le_of_ble_eq_true rfl) (fun X hX G => by subst hX; exact ok_X8_isLike_0 G (ca_X8_isLike_ok hst hD F) a0 a1 M h), isC_of hi⟩
  · cases h
def n_X8_isLike {R' : Type} (f : Nat → Int32 → cM → Option (Int32 × cM)) : cFn R' := fun as M κ κx => match as with
  | [.ref a0, .int a1] => (f a0 a1 M).bind fun p => κ (some (.int p.1)) p.2
  | _ => none
theorem w_X8_isLike : ∀ w ∈ [Cond.instanceMethod yX8_isLike, .selects yX8_isLike.cls yX8_isLike yX8_isLike, .initialized yX8_isLike.cls, .code yX8_isLike cX8_isLike 5 (some .boolean)], w ∈ lw_good := List.forall_mem_cons.mpr ⟨lw_good_of (tb_ok 839 (by decide +kernel)) rfl, List.forall_mem_cons.mpr ⟨lw_good_of (ts_ok 11 (by decide +kernel)) rfl, List.forall_mem_cons.mpr ⟨lw_good_of (tb_ok 9 (by decide +kernel)) rfl, List.forall_mem_cons.mpr ⟨lw_good_of (tb_ok 840 (by decide +kernel)) rfl, fun _ h => absurd h List.not_mem_nil⟩⟩⟩⟩
theorem n_X8_isLike_ok {R' : Type} {q : cL} {own : String} {d k : Nat} {f : Nat → Int32 → cM → Option (Int32 × cM)} (hl : Cond.methodLink own k yX8_isLike ∈ lw_good) (hf : ∀ a0 a1 M r, f a0 a1 M = some r → CTx q yX8_isLike (.code yX8_isLike cX8_isLike 5 (some .boolean)) d [.ref a0, .int a1] M (eI r) ∧ ∃ fs, M[a0]? = some (.inr (6, fs))) : ceS q own d (3 * k + 1) (n_X8_isLike (R' := R') f) := by
  intro as M κ κx r h
  unfold n_X8_isLike at h
  split at h
  · obtain ⟨p, h1, h2⟩ := Option.bind_eq_some_iff.mp h
    obtain ⟨hc, fs, ha⟩ := hf _ _ _ _ h1
    exact ⟨eI p, fun _ => h2, fun hne => absurd rfl hne, Or.inr (Or.inl ⟨yX8_isLike, cX8_isLike, 5, (some .boolean), k, 1, _, _, 6, TX8, 14, fs, rfl, rfl, hc, ha, rfl, List.forall_mem_cons.mpr ⟨hl, w_X8_isLike⟩, ⟨rfl, by decide +kernel, by decide +kernel, by decide +kernel⟩, rfl, by decide⟩)⟩
  · cases h
-- PatchbayScript$Stock.addAtom(II)V
def T_X8_addAtom : List cRow := [(0, .aload_n 0, 1, 0), (1, .getfield 26, 4, 0), (4, .aload_n 0, 5, 0), (5, .getfield 59, 8, 0), (8, .iload_n 1, 9, 0), (9, .iastore, 10, 0), (10, .aload_n 0, 11, 0), (11, .getfield 30, 14, 0), (14, .aload_n 0, 15, 0), (15, .getfield 59, 18, 0), (18, .iload_n 2, 19, 0), (19, .iastore, 20, 0), (20, .aload_n 0, 21, 0), (21, .getfield 36, 24, 0), (24, .aload_n 0, 25, 0), (25, .getfield 59, 28, 0), (28, .iconst 4, 29, 0), (29, .imul, 30, 0), (30, .iaload, 31, 0), (31, .bipush 20, 33, 0), (33, .invokestatic 106, 36, 0), (36, .istore_n 3, 37, 0), (37, .aload_n 0, 38, 0), (38, .getfield 48, 41, 0), (41, .iload_n 3, 42, 0), (42, .iaload, 43, 0), (43, .istore 4, 45, 0), (45, .iconst 0, 46, 0), (46, .istore 5, 48, 0), (48, .iload 5, 50, 0), (50, .aload_n 0, 51, 0), (51, .getfield 62, 54, 0), (54, .if_icmp .ge 38, 57, 92), (57, .iload 4, 59, 0), (59, .iconst (-1), 60, 0), (60, .if_icmp .eq 32, 63, 92), (63, .aload_n 0, 64, 0), (64, .aload_n 0, 65, 0), (65, .getfield 42, 68, 0), (68, .iload 4, 70, 0), (70, .iaload, 71, 0), (71, .invokevirtual 111, 74, 0), (74, .ifCond .ne 18, 77, 92), (77, .aload_n 0, 78, 0), (78, .getfield 51, 81, 0), (81, .iload 4, 83, 0), (83, .iaload, 84, 0), (84, .istore 4, 86, 0), (86, .iinc 5 1, 89, 0), (89, .goto (-41), 92, 48), (92, .iload 4, 94, 0), (94, .iconst (-1), 95, 0), (95, .if_icmp .ne 59, 98, 154), (98, .aload_n 0, 99, 0), (99, .getfield 62, 102, 0), (102, .istore 4, 104, 0), (104, .aload_n 0, 105, 0), (105, .dup, 106, 0), (106, .getfield 62, 109, 0), (109, .iconst 1, 110, 0), (110, .iadd, 111, 0), (111, .putfield 62, 114, 0), (114, .aload_n 0, 115, 0), (115, .getfield 42, 118, 0), (118, .iload 4, 120, 0), (120, .aload_n 0, 121, 0), (121, .getfield 59, 124, 0), (124, .iastore, 125, 0), (125, .aload_n 0, 126, 0), (126, .getfield 45, 129, 0), (129, .iload 4, 131, 0), (131, .iconst 0, 132, 0), (132, .iastore, 133, 0), (133, .aload_n 0, 134, 0), (134, .getfield 51, 137, 0), (137, .iload 4, 139, 0), (139, .aload_n 0, 140, 0), (140, .getfield 48, 143, 0), (143, .iload_n 3, 144, 0), (144, .iaload, 145, 0), (145, .iastore, 146, 0), (146, .aload_n 0, 147, 0), (147, .getfield 48, 150, 0), (150, .iload_n 3, 151, 0), (151, .iload 4, 153, 0), (153, .iastore, 154, 0), (154, .aload_n 0, 155, 0), (155, .getfield 45, 158, 0), (158, .iload 4, 160, 0), (160, .dup2, 161, 0), (161, .iaload, 162, 0), (162, .iconst 1, 163, 0), (163, .iload_n 2, 164, 0), (164, .iconst 4, 165, 0), (165, .isub, 166, 0), (166, .ishl, 167, 0), (167, .ior, 168, 0), (168, .iastore, 169, 0), (169, .aload_n 0, 170, 0), (170, .dup, 171, 0), (171, .getfield 59, 174, 0), (174, .iconst 1, 175, 0), (175, .iadd, 176, 0), (176, .putfield 59, 179, 0), (179, .return_, 180, 0)]
theorem T_X8_addAtom_ok : T_X8_addAtom.all (rowB cX8_addAtom) = true := by decide +kernel
def th_X8_addAtom : List (Nat × Nat) := []
def sw_X8_addAtom : List (Nat × (List (Int32 × Nat) × Nat)) := []
theorem sw_X8_addAtom_ok : ∀ q ∈ sw_X8_addAtom, swS cX8_addAtom q := fun _ h => absurd h List.not_mem_nil
def na_X8_addAtom : List (Nat × Nat) := [(318, 2), (334, 2)]
def ca_X8_addAtom {R' : Type} (F : Nat) : List (Nat × cFn R') := [(318, n_min), (334, n_X8_isLike (f_X8_isLike F))]
theorem ca_X8_addAtom_ok {R' : Type} {q : cL} (hst : q.1.stackTraces = false) {D : Nat} (hD : 1 ≤ D) (F : Nat) : ∀ x ∈ (ca_X8_addAtom (R' := R') F), 1 ≤ D ∧ ceS q RX8 (D - 1) x.1 x.2 := List.forall_mem_cons.mpr ⟨⟨by omega, n_min_ok (k := 106) (lw_good_of (tb_ok 836 (by decide +kernel)) rfl)⟩, List.forall_mem_cons.mpr ⟨⟨by omega, n_X8_isLike_ok (k := 111) (lw_good_of (tb_ok 837 (by decide +kernel)) rfl) (fun a0 a1 M r h => c_X8_isLike hst (by omega) F a0 a1 M r h)⟩, fun _ h => absurd h List.not_mem_nil⟩⟩
def kd_X8_addAtom_48 (g : Nat → Int32 → Int32 → Int32 → Int32 → cM → Option (cM)) : cKf (cM) := fun vs st M => (lR vs 0).bind fun x0 => (lI vs 2).bind fun x2 => (lI vs 3).bind fun x3 => (lI vs 4).bind fun x4 => (lI vs 5).bind fun x5 => match st with
  | [] => g x0 x2 x3 x4 x5 M
  | _ => none
theorem kf_X8_addAtom_48 {X : cCtx} {o : cO} {r : cM} {g : Nat → Int32 → Int32 → Int32 → Int32 → cM → Option (cM)} (hg : ∀ x0 x2 x3 x4 x5 M, g x0 x2 x3 x4 x5 M = some r → WX X 6 o 48 [some (.ref x0), none, some (.int x2), some (.int x3), some (.int x4), some (.int x5)] [] M) : ∀ vs st M, kd_X8_addAtom_48 g vs st M = some r → WX X 6 o 48 vs st M := by
  intro vs st M h
  unfold kd_X8_addAtom_48 at h
  obtain ⟨x0, h0, h⟩ := Option.bind_eq_some_iff.mp h
  obtain ⟨x2, h2, h⟩ := Option.bind_eq_some_iff.mp h
  obtain ⟨x3, h3, h⟩ := Option.bind_eq_some_iff.mp h
  obtain ⟨x4, h4, h⟩ := Option.bind_eq_some_iff.mp h
  obtain ⟨x5, h5, h⟩ := Option.bind_eq_some_iff.mp h
  split at h
  · exact WX_weak (hg _ _ _ _ _ _ h) rfl ⟨lR_of h0, lI_of h2, lI_of h3, lI_of h4, lI_of h5, trivial⟩
  · cases h
def kd_X8_addAtom_92 (g : Nat → Int32 → Int32 → Int32 → cM → Option (cM)) : cKf (cM) := fun vs st M => (lR vs 0).bind fun x0 => (lI vs 2).bind fun x2 => (lI vs 3).bind fun x3 => (lI vs 4).bind fun x4 => match st with
  | [] => g x0 x2 x3 x4 M
  | _ => none
theorem kf_X8_addAtom_92 {X : cCtx} {o : cO} {r : cM} {g : Nat → Int32 → Int32 → Int32 → cM → Option (cM)} (hg : ∀ x0 x2 x3 x4 M, g x0 x2 x3 x4 M = some r → WX X 6 o 92 [some (.ref x0), none, some (.int x2), some (.int x3), some (.int x4), none] [] M) : ∀ vs st M, kd_X8_addAtom_92 g vs st M = some r → WX X 6 o 92 vs st M := by
  intro vs st M h
  unfold kd_X8_addAtom_92 at h
  obtain ⟨x0, h0, h⟩ := Option.bind_eq_some_iff.mp h
  obtain ⟨x2, h2, h⟩ := Option.bind_eq_some_iff.mp h
  obtain ⟨x3, h3, h⟩ := Option.bind_eq_some_iff.mp h
  obtain ⟨x4, h4, h⟩ := Option.bind_eq_some_iff.mp h
  split at h
  · exact WX_weak (hg _ _ _ _ _ h) rfl ⟨lR_of h0, lI_of h2, lI_of h3, lI_of h4, trivial⟩
  · cases h
def kd_X8_addAtom_154 (g : Nat → Int32 → Int32 → cM → Option (cM)) : cKf (cM) := fun vs st M => (lR vs 0).bind fun x0 => (lI vs 2).bind fun x2 => (lI vs 4).bind fun x4 => match st with
  | [] => g x0 x2 x4 M
  | _ => none
theorem kf_X8_addAtom_154 {X : cCtx} {o : cO} {r : cM} {g : Nat → Int32 → Int32 → cM → Option (cM)} (hg : ∀ x0 x2 x4 M, g x0 x2 x4 M = some r → WX X 6 o 154 [some (.ref x0), none, some (.int x2), none, some (.int x4), none] [] M) : ∀ vs st M, kd_X8_addAtom_154 g vs st M = some r → WX X 6 o 154 vs st M := by
  intro vs st M h
  unfold kd_X8_addAtom_154 at h
  obtain ⟨x0, h0, h⟩ := Option.bind_eq_some_iff.mp h
  obtain ⟨x2, h2, h⟩ := Option.bind_eq_some_iff.mp h
  obtain ⟨x4, h4, h⟩ := Option.bind_eq_some_iff.mp h
  split at h
  · exact WX_weak (hg _ _ _ _ h) rfl ⟨lR_of h0, lI_of h2, lI_of h4, trivial⟩
  · cases h
theorem e_X8_addAtom_154 (F : Nat) (x0 : Nat) (x2 : Int32) (x4 : Int32) (M : cM) : b_X8_addAtom_154 F x0 x2 x4 M = run T_X8_addAtom P_RX8 false 5 (naL na_X8_addAtom) (caL (ca_X8_addAtom F)) (lkN th_X8_addAtom) (lkN sw_X8_addAtom) krV kxN (spL []) (KL []) 108 154 [some (.ref x0), none, some (.int x2), none, some (.int x4), none] [] M := rfl
theorem ok_X8_addAtom_154 {X : cCtx} {D : Nat} {r : cM} (G : FX X 6 (eV r) cX8_addAtom RX8 5 D) {F : Nat} (hca : ∀ x ∈ (ca_X8_addAtom (R' := cM) F), 1 ≤ D ∧ ceS X.1 RX8 (D - 1) x.1 x.2) : ∀ x0 x2 x4 M, f_X8_addAtom_154 F x0 x2 x4 M = some r → WX X 6 (eV r) 154 [some (.ref x0), none, some (.int x2), none, some (.int x4), none] [] M := by
  intro x0 x2 x4 M h
  exact seg_ok G P_RX8_ok T_X8_addAtom_ok hca (fun _ h => absurd h List.not_mem_nil) sw_X8_addAtom_ok krV_ok (kxN_ok (f := eV)) (fun _ h => absurd h List.not_mem_nil) ((e_X8_addAtom_154 F x0 x2 x4 M).symm.trans h)
theorem e_X8_addAtom_92 (F : Nat) (t154 : Nat → Int32 → Int32 → cM → Option (cM)) (x0 : Nat) (x2 : Int32) (x3 : Int32) (x4 : Int32) (M : cM) : b_X8_addAtom_92 F t154 x0 x2 x3 x4 M = run T_X8_addAtom P_RX8 false 5 (naL na_X8_addAtom) (caL (ca_X8_addAtom F)) (lkN th_X8_addAtom) (lkN sw_X8_addAtom) krV kxN (spL [154]) (KL [(154, kd_X8_addAtom_154 t154)]) 108 92 [some (.ref x0), none, some (.int x2), some (.int x3), some (.int x4), none] [] M := rfl
theorem ok_X8_addAtom_92 {X : cCtx} {D : Nat} {r : cM} (G : FX X 6 (eV r) cX8_addAtom RX8 5 D) {F : Nat} (hca : ∀ x ∈ (ca_X8_addAtom (R' := cM) F), 1 ≤ D ∧ ceS X.1 RX8 (D - 1) x.1 x.2) : ∀ x0 x2 x3 x4 M, f_X8_addAtom_92 F x0 x2 x3 x4 M = some r → WX X 6 (eV r) 92 [some (.ref x0), none, some (.int x2), some (.int x3), some (.int x4), none] [] M := by
  intro x0 x2 x3 x4 M h
  exact seg_ok G P_RX8_ok T_X8_addAtom_ok hca (fun _ h => absurd h List.not_mem_nil) sw_X8_addAtom_ok krV_ok (kxN_ok (f := eV)) (List.forall_mem_cons.mpr ⟨kf_X8_addAtom_154 (ok_X8_addAtom_154 G hca), fun _ h => absurd h List.not_mem_nil⟩) ((e_X8_addAtom_92 F (f_X8_addAtom_154 F) x0 x2 x3 x4 M).symm.trans h)
theorem e_X8_addAtom_48 (F : Nat) (t48 : Nat → Int32 → Int32 → Int32 → Int32 → cM → Option (cM)) (t92 : Nat → Int32 → Int32 → Int32 → cM → Option (cM)) (x0 : Nat) (x2 : Int32) (x3 : Int32) (x4 : Int32) (x5 : Int32) (M : cM) : b_X8_addAtom_48 F t48 t92 x0 x2 x3 x4 x5 M = run T_X8_addAtom P_RX8 false 5 (naL na_X8_addAtom) (caL (ca_X8_addAtom F)) (lkN th_X8_addAtom) (lkN sw_X8_addAtom) krV kxN (spL [48, 92]) (KL [(48, kd_X8_addAtom_48 t48), (92, kd_X8_addAtom_92 t92)]) 108 48 [some (.ref x0), none, some (.int x2), some (.int x3), some (.int x4), some (.int x5)] [] M := rfl
theorem ok_X8_addAtom_48 {X : cCtx} {D : Nat} {r : cM} (G : FX X 6 (eV r) cX8_addAtom RX8 5 D) {F : Nat} (hca : ∀ x ∈ (ca_X8_addAtom (R' := cM) F), 1 ≤ D ∧ ceS X.1 RX8 (D - 1) x.1 x.2) (n : Nat) : ∀ x0 x2 x3 x4 x5 M, f_X8_addAtom_48 F n x0 x2 x3 x4 x5 M = some r → WX X 6 (eV r) 48 [some (.ref x0), none, some (.int x2), some (.int x3), some (.int x4), some (.int x5)] [] M := by
  induction n with
  | zero => intro x0 x2 x3 x4 x5 M h; cases h
  | succ n ih =>
    intro x0 x2 x3 x4 x5 M h
    exact seg_ok G P_RX8_ok T_X8_addAtom_ok hca (fun _ h => absurd h List.not_mem_nil) sw_X8_addAtom_ok krV_ok (kxN_ok (f := eV)) (List.forall_mem_cons.mpr ⟨kf_X8_addAtom_48 (ih), List.forall_mem_cons.mpr ⟨kf_X8_addAtom_92 (ok_X8_addAtom_92 G hca), fun _ h => absurd h List.not_mem_nil⟩⟩) ((e_X8_addAtom_48 F (f_X8_addAtom_48 F n) (f_X8_addAtom_92 F) x0 x2 x3 x4 x5 M).symm.trans h)
theorem e_X8_addAtom_0 (F : Nat) (t48 : Nat → Int32 → Int32 → Int32 → Int32 → cM → Option (cM)) (x0 : Nat) (x1 : Int32) (x2 : Int32) (M : cM) : b_X8_addAtom_0 F t48 x0 x1 x2 M = run T_X8_addAtom P_RX8 false 5 (naL na_X8_addAtom) (caL (ca_X8_addAtom F)) (lkN th_X8_addAtom) (lkN sw_X8_addAtom) krV kxN (spL [48]) (KL [(48, kd_X8_addAtom_48 t48)]) 108 0 [some (.ref x0), some (.int x1), some (.int x2), none, none, none] [] M := rfl
theorem ok_X8_addAtom_0 {X : cCtx} {D : Nat} {r : cM} (G : FX X 6 (eV r) cX8_addAtom RX8 5 D) {F : Nat} (hca : ∀ x ∈ (ca_X8_addAtom (R' := cM) F), 1 ≤ D ∧ ceS X.1 RX8 (D - 1) x.1 x.2) : ∀ x0 x1 x2 M, f_X8_addAtom_0 F x0 x1 x2 M = some r → WX X 6 (eV r) 0 [some (.ref x0), some (.int x1), some (.int x2), none, none, none] [] M := by
  intro x0 x1 x2 M h
  exact seg_ok G P_RX8_ok T_X8_addAtom_ok hca (fun _ h => absurd h List.not_mem_nil) sw_X8_addAtom_ok krV_ok (kxN_ok (f := eV)) (List.forall_mem_cons.mpr ⟨kf_X8_addAtom_48 (ok_X8_addAtom_48 G hca F), fun _ h => absurd h List.not_mem_nil⟩) ((e_X8_addAtom_0 F (f_X8_addAtom_48 F F) x0 x1 x2 M).symm.trans h)
theorem c_X8_addAtom {q : cL} (hst : q.1.stackTraces = false) {D : Nat} (hD : 1 ≤ D) (F : Nat) (a0 : Nat) (a1 : Int32) (a2 : Int32) (M : cM) (r : cM) (h : f_X8_addAtom F a0 a1 a2 M = some r) : CTx q yX8_addAtom (.code yX8_addAtom cX8_addAtom 6 none) D [.ref a0, .int a1, .int a2] M (eV r) ∧ ∃ fs, M[a0]? = some (.inr (6, fs)) := by
  unfold f_X8_addAtom at h
  split at h
  · next hi => exact ⟨CTx_of (own := RX8) (rk := 5) hst (by decide +kernel) rfl (rfl) (Nat.le_of_ble_eq_true rfl) (fun X hX G => by subst hX; exact ok_X8_addAtom_0 G (ca_X8_addAtom_ok hst hD F) a0 a1 a2 M h), isC_of hi⟩
  · cases h
def n_X8_addAtom {R' : Type} (f : Nat → Int32 → Int32 → cM → Option (cM)) : cFn R' := fun as M κ κx => match as with
  | [.ref a0, .int a1, .int a2] => (f a0 a1 a2 M).bind fun p => κ none p
  | _ => none
theorem w_X8_addAtom : ∀ w ∈ [Cond.instanceMethod yX8_addAtom, .selects yX8_addAtom.cls yX8_addAtom yX8_addAtom, .initialized yX8_addAtom.cls, .code yX8_addAtom cX8_addAtom 6 none], w ∈ lw_good := List.forall_mem_cons.mpr ⟨lw_good_of (tb_ok 834 (by decide +kernel)) rfl, List.forall_mem_cons.mpr ⟨lw_good_of (ts_ok 10 (by decide +kernel)) rfl, List.forall_mem_cons.mpr ⟨lw_good_of (tb_ok 9 (by decide +kernel)) rfl, List.forall_mem_cons.mpr ⟨lw_good_of (tb_ok 835 (by decide +kernel)) rfl, fun _ h => absurd h List.not_mem_nil⟩⟩⟩⟩
theorem n_X8_addAtom_ok {R' : Type} {q : cL} {own : String} {d k : Nat} {f : Nat → Int32 → Int32 → cM → Option (cM)} (hl : Cond.methodLink own k yX8_addAtom ∈ lw_good) (hf : ∀ a0 a1 a2 M r, f a0 a1 a2 M = some r → CTx q yX8_addAtom (.code yX8_addAtom cX8_addAtom 6 none) d [.ref a0, .int a1, .int a2] M (eV r) ∧ ∃ fs, M[a0]? = some (.inr (6, fs))) : ceS q own d (3 * k + 1) (n_X8_addAtom (R' := R') f) := by
  intro as M κ κx r h
  unfold n_X8_addAtom at h
  split at h
  · obtain ⟨p, h1, h2⟩ := Option.bind_eq_some_iff.mp h
    obtain ⟨hc, fs, ha⟩ := hf _ _ _ _ _ h1
    exact ⟨eV p, fun _ => h2, fun hne => absurd rfl hne, Or.inr (Or.inl ⟨yX8_addAtom, cX8_addAtom, 6, none, k, 2, _, _, 6, TX8, 14, fs, rfl, rfl, hc, ha, rfl, List.forall_mem_cons.mpr ⟨hl, w_X8_addAtom⟩, ⟨rfl, by decide +kernel, by decide +kernel, by decide +kernel⟩, rfl, by decide⟩)⟩
  · cases h
-- PatchbayScript$Stock.gatherCuts(II)V
def T_X8_gatherCuts : List cRow := [(0, .iconst 0, 1, 0), (1, .istore_n 3, 2, 0), (2, .iload_n 3, 3, 0), (3, .aload_n 0, 4, 0), (4, .getfield 55, 7, 0), (7, .if_icmp .ge 24, 10, 31), (10, .aload_n 0, 11, 0), (11, .getfield 23, 14, 0), (14, .iload_n 3, 15, 0), (15, .aaload, 16, 0), (16, .iload_n 1, 17, 0), (17, .iload_n 2, 18, 0), (18, .invokevirtual 79, 21, 0), (21, .ifCond .ne 4, 24, 25), (24, .return_, 25, 0), (25, .iinc 3 1, 28, 0), (28, .goto (-26), 31, 2), (31, .iconst 0, 32, 0), (32, .istore_n 3, 33, 0), (33, .iload_n 3, 34, 0), (34, .iconst 4, 35, 0), (35, .if_icmp .ge 135, 38, 170), (38, .aload_n 0, 39, 0), (39, .getfield 59, 42, 0), (42, .sipush 1812, 45, 0), (45, .if_icmp .ge 125, 48, 170), (48, .iconst 1, 49, 0), (49, .istore 4, 51, 0), (51, .iconst 0, 52, 0), (52, .istore 5, 54, 0), (54, .iload 5, 56, 0), (56, .aload_n 0, 57, 0), (57, .getfield 55, 60, 0), (60, .if_icmp .ge 83, 63, 143), (63, .iload 4, 65, 0), (65, .ifCond .eq 78, 68, 143), (68, .aload_n 0, 69, 0), (69, .getfield 23, 72, 0), (72, .iload 5, 74, 0), (74, .aaload, 75, 0), (75, .iload_n 1, 76, 0), (76, .iload_n 2, 77, 0), (77, .iload_n 3, 78, 0), (78, .invokevirtual 83, 81, 0), (81, .istore 6, 83, 0), (83, .aload_n 0, 84, 0), (84, .getfield 33, 87, 0), (87, .aload_n 0, 88, 0), (88, .getfield 59, 91, 0), (91, .iconst 4, 92, 0), (92, .imul, 93, 0), (93, .iload 5, 95, 0), (95, .iadd, 96, 0), (96, .iload 6, 98, 0), (98, .iastore, 99, 0), (99, .aload_n 0, 100, 0), (100, .getfield 36, 103, 0), (103, .aload_n 0, 104, 0), (104, .getfield 59, 107, 0), (107, .iconst 4, 108, 0), (108, .imul, 109, 0), (109, .iload 5, 111, 0), (111, .iadd, 112, 0), (112, .aload_n 0, 113, 0), (113, .getfield 23, 116, 0), (116, .iload 5, 118, 0), (118, .aaload, 119, 0), (119, .iload_n 1, 120, 0), (120, .iload_n 2, 121, 0), (121, .invokevirtual 87, 124, 0), (124, .iastore, 125, 0), (125, .iload 6, 127, 0), (127, .ifCond .eq 7, 130, 134), (130, .iconst 1, 131, 0), (131, .goto 4, 134, 135), (134, .iconst 0, 135, 0), (135, .istore 4, 137, 0), (137, .iinc 5 1, 140, 0), (140, .goto (-86), 143, 54), (143, .iload 4, 145, 0), (145, .ifCond .eq 19, 148, 164), (148, .aload_n 0, 149, 0), (149, .iload_n 1, 150, 0), (150, .iload_n 2, 151, 0), (151, .iload_n 3, 152, 0), (152, .invokestatic 91, 155, 0), (155, .iload_n 1, 156, 0), (156, .iload_n 2, 157, 0), (157, .iload_n 3, 158, 0), (158, .invokestatic 94, 161, 0), (161, .invokevirtual 97, 164, 0), (164, .iinc 3 1, 167, 0), (167, .goto (-134), 170, 33), (170, .return_, 171, 0)]
theorem T_X8_gatherCuts_ok : T_X8_gatherCuts.all (rowB cX8_gatherCuts) = true := by decide +kernel
def th_X8_gatherCuts : List (Nat × Nat) := []
def sw_X8_gatherCuts : List (Nat × (List (Int32 × Nat) × Nat)) := []
theorem sw_X8_gatherCuts_ok : ∀ q ∈ sw_X8_gatherCuts, swS cX8_gatherCuts q := fun _ h => absurd h List.not_mem_nil
def na_X8_gatherCuts : List (Nat × Nat) := [(238, 3), (250, 4), (262, 3), (273, 3), (282, 3), (292, 3)]
def ca_X8_gatherCuts {R' : Type} (F : Nat) : List (Nat × cFn R') := [(238, n_X1_hasCut (f_X1_hasCut F)), (250, n_X1_placesOfCut (f_X1_placesOfCut F)), (262, n_X1_sizeOfCut (f_X1_sizeOfCut F)), (273, n_X0_cut (f_X0_cut F)), (282, n_X0_weightOfCut (f_X0_weightOfCut F)), (292, n_X8_addAtom (f_X8_addAtom F))]
theorem ca_X8_gatherCuts_ok {R' : Type} {q : cL} (hst : q.1.stackTraces = false) {D : Nat} (hD : 2 ≤ D) (F : Nat) : ∀ x ∈ (ca_X8_gatherCuts (R' := R') F), 1 ≤ D ∧ ceS q RX8 (D - 1) x.1 x.2 := List.forall_mem_cons.mpr ⟨⟨by omega, n_X1_hasCut_ok (k := 79) (lw_good_of (tb_ok 812 (by decide +kernel)) rfl) (fun a0 a1 a2 M r h => c_X1_hasCut hst (by omega) F a0 a1 a2 M r h)⟩, List.forall_mem_cons.mpr ⟨⟨by omega, n_X1_placesOfCut_ok (k := 83) (lw_good_of (tb_ok 816 (by decide +kernel)) rfl) (fun a0 a1 a2 a3 M r h => c_X1_placesOfCut hst (by omega) F a0 a1 a2 a3 M r h)⟩, List.forall_mem_cons.mpr ⟨⟨by omega, n_X1_sizeOfCut_ok (k := 87) (lw_good_of (tb_ok 821 (by decide +kernel)) rfl) (fun a0 a1 a2 M r h => c_X1_sizeOfCut hst (by omega) F a0 a1 a2 M r h)⟩, List.forall_mem_cons.mpr ⟨⟨by omega, n_X0_cut_ok (k := 91) (lw_good_of (tb_ok 825 (by decide +kernel)) rfl) (fun a0 a1 a2 M r h => c_X0_cut hst (by omega) F a0 a1 a2 M r h)⟩, List.forall_mem_cons.mpr ⟨⟨by omega, n_X0_weightOfCut_ok (k := 94) (lw_good_of (tb_ok 826 (by decide +kernel)) rfl) (fun a0 a1 a2 M r h => c_X0_weightOfCut hst (by omega) F a0 a1 a2 M r h)⟩, List.forall_mem_cons.mpr ⟨⟨by omega, n_X8_addAtom_ok (k := 97) (lw_good_of (tb_ok 832 (by decide +kernel)) rfl) (fun a0 a1 a2 M r h => c_X8_addAtom hst (by omega) F a0 a1 a2 M r h)⟩, fun _ h => absurd h List.not_mem_nil⟩⟩⟩⟩⟩⟩
def kd_X8_gatherCuts_2 (g : Nat → Int32 → Int32 → Int32 → cM → Option (cM)) : cKf (cM) := fun vs st M => (lR vs 0).bind fun x0 => (lI vs 1).bind fun x1 => (lI vs 2).bind fun x2 => (lI vs 3).bind fun x3 => match st with
  | [] => g x0 x1 x2 x3 M
  | _ => none
theorem kf_X8_gatherCuts_2 {X : cCtx} {o : cO} {r : cM} {g : Nat → Int32 → Int32 → Int32 → cM → Option (cM)} (hg : ∀ x0 x1 x2 x3 M, g x0 x1 x2 x3 M = some r → WX X 7 o 2 [some (.ref x0), some (.int x1), some (.int x2), some (.int x3), none, none, none] [] M) : ∀ vs st M, kd_X8_gatherCuts_2 g vs st M = some r → WX X 7 o 2 vs st M := by
  intro vs st M h
  unfold kd_X8_gatherCuts_2 at h
  obtain ⟨x0, h0, h⟩ := Option.bind_eq_some_iff.mp h
  obtain ⟨x1, h1, h⟩ := Option.bind_eq_some_iff.mp h
  obtain ⟨x2, h2, h⟩ := Option.bind_eq_some_iff.mp h
  obtain ⟨x3, h3, h⟩ := Option.bind_eq_some_iff.mp h
  split at h
  · exact WX_weak (hg _ _ _ _ _ h) rfl ⟨lR_of h0, lI_of h1, lI_of h2, lI_of h3, trivial⟩
  · cases h
def kd_X8_gatherCuts_33 (g : Nat → Int32 → Int32 → Int32 → cM → Option (cM)) : cKf (cM) := fun vs st M => (lR vs 0).bind fun x0 => (lI vs 1).bind fun x1 => (lI vs 2).bind fun x2 => (lI vs 3).bind fun x3 => match st with
  | [] => g x0 x1 x2 x3 M
  | _ => none
theorem kf_X8_gatherCuts_33 {X : cCtx} {o : cO} {r : cM} {g : Nat → Int32 → Int32 → Int32 → cM → Option (cM)} (hg : ∀ x0 x1 x2 x3 M, g x0 x1 x2 x3 M = some r → WX X 7 o 33 [some (.ref x0), some (.int x1), some (.int x2), some (.int x3), none, none, none] [] M) : ∀ vs st M, kd_X8_gatherCuts_33 g vs st M = some r → WX X 7 o 33 vs st M := by
  intro vs st M h
  unfold kd_X8_gatherCuts_33 at h
  obtain ⟨x0, h0, h⟩ := Option.bind_eq_some_iff.mp h
  obtain ⟨x1, h1, h⟩ := Option.bind_eq_some_iff.mp h
  obtain ⟨x2, h2, h⟩ := Option.bind_eq_some_iff.mp h
  obtain ⟨x3, h3, h⟩ := Option.bind_eq_some_iff.mp h
  split at h
  · exact WX_weak (hg _ _ _ _ _ h) rfl ⟨lR_of h0, lI_of h1, lI_of h2, lI_of h3, trivial⟩
  · cases h
def kd_X8_gatherCuts_54 (g : Nat → Int32 → Int32 → Int32 → Int32 → Int32 → cM → Option (cM)) : cKf (cM) := fun vs st M => (lR vs 0).bind fun x0 => (lI vs 1).bind fun x1 => (lI vs 2).bind fun x2 => (lI vs 3).bind fun x3 => (lI vs 4).bind fun x4 => (lI vs 5).bind fun x5 => match st with
  | [] => g x0 x1 x2 x3 x4 x5 M
  | _ => none
theorem kf_X8_gatherCuts_54 {X : cCtx} {o : cO} {r : cM} {g : Nat → Int32 → Int32 → Int32 → Int32 → Int32 → cM → Option (cM)} (hg : ∀ x0 x1 x2 x3 x4 x5 M, g x0 x1 x2 x3 x4 x5 M = some r → WX X 7 o 54 [some (.ref x0), some (.int x1), some (.int x2), some (.int x3), some (.int x4), some (.int x5), none] [] M) : ∀ vs st M, kd_X8_gatherCuts_54 g vs st M = some r → WX X 7 o 54 vs st M := by
  intro vs st M h
  unfold kd_X8_gatherCuts_54 at h
  obtain ⟨x0, h0, h⟩ := Option.bind_eq_some_iff.mp h
  obtain ⟨x1, h1, h⟩ := Option.bind_eq_some_iff.mp h
  obtain ⟨x2, h2, h⟩ := Option.bind_eq_some_iff.mp h
  obtain ⟨x3, h3, h⟩ := Option.bind_eq_some_iff.mp h
  obtain ⟨x4, h4, h⟩ := Option.bind_eq_some_iff.mp h
  obtain ⟨x5, h5, h⟩ := Option.bind_eq_some_iff.mp h
  split at h
  · exact WX_weak (hg _ _ _ _ _ _ _ h) rfl ⟨lR_of h0, lI_of h1, lI_of h2, lI_of h3, lI_of h4, lI_of h5, trivial⟩
  · cases h
def kd_X8_gatherCuts_99 (g : Nat → Int32 → Int32 → Int32 → Int32 → Int32 → cM → Option (cM)) : cKf (cM) := fun vs st M => (lR vs 0).bind fun x0 => (lI vs 1).bind fun x1 => (lI vs 2).bind fun x2 => (lI vs 3).bind fun x3 => (lI vs 5).bind fun x5 => (lI vs 6).bind fun x6 => match st with
  | [] => g x0 x1 x2 x3 x5 x6 M
  | _ => none
theorem kf_X8_gatherCuts_99 {X : cCtx} {o : cO} {r : cM} {g : Nat → Int32 → Int32 → Int32 → Int32 → Int32 → cM → Option (cM)} (hg : ∀ x0 x1 x2 x3 x5 x6 M, g x0 x1 x2 x3 x5 x6 M = some r → WX X 7 o 99 [some (.ref x0), some (.int x1), some (.int x2), some (.int x3), none, some (.int x5), some (.int x6)] [] M) : ∀ vs st M, kd_X8_gatherCuts_99 g vs st M = some r → WX X 7 o 99 vs st M := by
  intro vs st M h
  unfold kd_X8_gatherCuts_99 at h
  obtain ⟨x0, h0, h⟩ := Option.bind_eq_some_iff.mp h
  obtain ⟨x1, h1, h⟩ := Option.bind_eq_some_iff.mp h
  obtain ⟨x2, h2, h⟩ := Option.bind_eq_some_iff.mp h
  obtain ⟨x3, h3, h⟩ := Option.bind_eq_some_iff.mp h
  obtain ⟨x5, h5, h⟩ := Option.bind_eq_some_iff.mp h
  obtain ⟨x6, h6, h⟩ := Option.bind_eq_some_iff.mp h
  split at h
  · exact WX_weak (hg _ _ _ _ _ _ _ h) rfl ⟨lR_of h0, lI_of h1, lI_of h2, lI_of h3, lI_of h5, lI_of h6, trivial⟩
  · cases h
def kd_X8_gatherCuts_143 (g : Nat → Int32 → Int32 → Int32 → Int32 → cM → Option (cM)) : cKf (cM) := fun vs st M => (lR vs 0).bind fun x0 => (lI vs 1).bind fun x1 => (lI vs 2).bind fun x2 => (lI vs 3).bind fun x3 => (lI vs 4).bind fun x4 => match st with
  | [] => g x0 x1 x2 x3 x4 M
  | _ => none
theorem kf_X8_gatherCuts_143 {X : cCtx} {o : cO} {r : cM} {g : Nat → Int32 → Int32 → Int32 → Int32 → cM → Option (cM)} (hg : ∀ x0 x1 x2 x3 x4 M, g x0 x1 x2 x3 x4 M = some r → WX X 7 o 143 [some (.ref x0), some (.int x1), some (.int x2), some (.int x3), some (.int x4), none, none] [] M) : ∀ vs st M, kd_X8_gatherCuts_143 g vs st M = some r → WX X 7 o 143 vs st M := by
  intro vs st M h
  unfold kd_X8_gatherCuts_143 at h
  obtain ⟨x0, h0, h⟩ := Option.bind_eq_some_iff.mp h
  obtain ⟨x1, h1, h⟩ := Option.bind_eq_some_iff.mp h
  obtain ⟨x2, h2, h⟩ := Option.bind_eq_some_iff.mp h
  obtain ⟨x3, h3, h⟩ := Option.bind_eq_some_iff.mp h
  obtain ⟨x4, h4, h⟩ := Option.bind_eq_some_iff.mp h
  split at h
  · exact WX_weak (hg _ _ _ _ _ _ h) rfl ⟨lR_of h0, lI_of h1, lI_of h2, lI_of h3, lI_of h4, trivial⟩
  · cases h
theorem e_X8_gatherCuts_143 (F : Nat) (t33 : Nat → Int32 → Int32 → Int32 → cM → Option (cM)) (x0 : Nat) (x1 : Int32) (x2 : Int32) (x3 : Int32) (x4 : Int32) (M : cM) : b_X8_gatherCuts_143 F t33 x0 x1 x2 x3 x4 M = run T_X8_gatherCuts P_RX8 false 5 (naL na_X8_gatherCuts) (caL (ca_X8_gatherCuts F)) (lkN th_X8_gatherCuts) (lkN sw_X8_gatherCuts) krV kxN (spL [33]) (KL [(33, kd_X8_gatherCuts_33 t33)]) 97 143 [some (.ref x0), some (.int x1), some (.int x2), some (.int x3), some (.int x4), none, none] [] M := rfl
theorem ok_X8_gatherCuts_143 {X : cCtx} {D : Nat} {r : cM} (G : FX X 7 (eV r) cX8_gatherCuts RX8 5 D) {F : Nat} (hca : ∀ x ∈ (ca_X8_gatherCuts (R' := cM) F), 1 ≤ D ∧ ceS X.1 RX8 (D - 1) x.1 x.2) (k33 : Nat → Int32 → Int32 → Int32 → cM → Option (cM)) (hk33 : ∀ x0 x1 x2 x3 M, k33 x0 x1 x2 x3 M = some r → WX X 7 (eV r) 33 [some (.ref x0), some (.int x1), some (.int x2), some (.int x3), none, none, none] [] M) : ∀ x0 x1 x2 x3 x4 M, f_X8_gatherCuts_143 F k33 x0 x1 x2 x3 x4 M = some r → WX X 7 (eV r) 143 [some (.ref x0), some (.int x1), some (.int x2), some (.int x3), some (.int x4), none, none] [] M := by
  intro x0 x1 x2 x3 x4 M h
  exact seg_ok G P_RX8_ok T_X8_gatherCuts_ok hca (fun _ h => absurd h List.not_mem_nil) sw_X8_gatherCuts_ok krV_ok (kxN_ok (f := eV)) (List.forall_mem_cons.mpr ⟨kf_X8_gatherCuts_33 (hk33), fun _ h => absurd h List.not_mem_nil⟩) ((e_X8_gatherCuts_143 F (k33) x0 x1 x2 x3 x4 M).symm.trans h)
theorem e_X8_gatherCuts_99 (F : Nat) (t54 : Nat → Int32 → Int32 → Int32 → Int32 → Int32 → cM → Option (cM)) (x0 : Nat) (x1 : Int32) (x2 : Int32) (x3 : Int32) (x5 : Int32) (x6 : Int32) (M : cM) : b_X8_gatherCuts_99 F t54 x0 x1 x2 x3 x5 x6 M = run T_X8_gatherCuts P_RX8 false 5 (naL na_X8_gatherCuts) (caL (ca_X8_gatherCuts F)) (lkN th_X8_gatherCuts) (lkN sw_X8_gatherCuts) krV kxN (spL [54]) (KL [(54, kd_X8_gatherCuts_54 t54)]) 97 99 [some (.ref x0), some (.int x1), some (.int x2), some (.int x3), none, some (.int x5), some (.int x6)] [] M := rfl
theorem ok_X8_gatherCuts_99 {X : cCtx} {D : Nat} {r : cM} (G : FX X 7 (eV r) cX8_gatherCuts RX8 5 D) {F : Nat} (hca : ∀ x ∈ (ca_X8_gatherCuts (R' := cM) F), 1 ≤ D ∧ ceS X.1 RX8 (D - 1) x.1 x.2) (k33 : Nat → Int32 → Int32 → Int32 → cM → Option (cM)) (k54 : Nat → Int32 → Int32 → Int32 → Int32 → Int32 → cM → Option (cM)) (hk33 : ∀ x0 x1 x2 x3 M, k33 x0 x1 x2 x3 M = some r → WX X 7 (eV r) 33 [some (.ref x0), some (.int x1), some (.int x2), some (.int x3), none, none, none] [] M) (hk54 : ∀ x0 x1 x2 x3 x4 x5 M, k54 x0 x1 x2 x3 x4 x5 M = some r → WX X 7 (eV r) 54 [some (.ref x0), some (.int x1), some (.int x2), some (.int x3), some (.int x4), some (.int x5), none] [] M) : ∀ x0 x1 x2 x3 x5 x6 M, f_X8_gatherCuts_99 F k33 k54 x0 x1 x2 x3 x5 x6 M = some r → WX X 7 (eV r) 99 [some (.ref x0), some (.int x1), some (.int x2), some (.int x3), none, some (.int x5), some (.int x6)] [] M := by
  intro x0 x1 x2 x3 x5 x6 M h
  exact seg_ok G P_RX8_ok T_X8_gatherCuts_ok hca (fun _ h => absurd h List.not_mem_nil) sw_X8_gatherCuts_ok krV_ok (kxN_ok (f := eV)) (List.forall_mem_cons.mpr ⟨kf_X8_gatherCuts_54 (hk54), fun _ h => absurd h List.not_mem_nil⟩) ((e_X8_gatherCuts_99 F (k54) x0 x1 x2 x3 x5 x6 M).symm.trans h)
theorem e_X8_gatherCuts_54 (F : Nat) (t99 : Nat → Int32 → Int32 → Int32 → Int32 → Int32 → cM → Option (cM)) (t143 : Nat → Int32 → Int32 → Int32 → Int32 → cM → Option (cM)) (x0 : Nat) (x1 : Int32) (x2 : Int32) (x3 : Int32) (x4 : Int32) (x5 : Int32) (M : cM) : b_X8_gatherCuts_54 F t99 t143 x0 x1 x2 x3 x4 x5 M = run T_X8_gatherCuts P_RX8 false 5 (naL na_X8_gatherCuts) (caL (ca_X8_gatherCuts F)) (lkN th_X8_gatherCuts) (lkN sw_X8_gatherCuts) krV kxN (spL [99, 143]) (KL [(99, kd_X8_gatherCuts_99 t99), (143, kd_X8_gatherCuts_143 t143)]) 97 54 [some (.ref x0), some (.int x1), some (.int x2), some (.int x3), some (.int x4), some (.int x5), none] [] M := rfl
theorem ok_X8_gatherCuts_54 {X : cCtx} {D : Nat} {r : cM} (G : FX X 7 (eV r) cX8_gatherCuts RX8 5 D) {F : Nat} (hca : ∀ x ∈ (ca_X8_gatherCuts (R' := cM) F), 1 ≤ D ∧ ceS X.1 RX8 (D - 1) x.1 x.2) (k33 : Nat → Int32 → Int32 → Int32 → cM → Option (cM)) (hk33 : ∀ x0 x1 x2 x3 M, k33 x0 x1 x2 x3 M = some r → WX X 7 (eV r) 33 [some (.ref x0), some (.int x1), some (.int x2), some (.int x3), none, none, none] [] M) (n : Nat) : ∀ x0 x1 x2 x3 x4 x5 M, f_X8_gatherCuts_54 F k33 n x0 x1 x2 x3 x4 x5 M = some r → WX X 7 (eV r) 54 [some (.ref x0), some (.int x1), some (.int x2), some (.int x3), some (.int x4), some (.int x5), none] [] M := by
  induction n with
  | zero => intro x0 x1 x2 x3 x4 x5 M h; cases h
  | succ n ih =>
    intro x0 x1 x2 x3 x4 x5 M h
    exact seg_ok G P_RX8_ok T_X8_gatherCuts_ok hca (fun _ h => absurd h List.not_mem_nil) sw_X8_gatherCuts_ok krV_ok (kxN_ok (f := eV)) (List.forall_mem_cons.mpr ⟨kf_X8_gatherCuts_99 (ok_X8_gatherCuts_99 G hca k33 (f_X8_gatherCuts_54 F k33 n) hk33 ih), List.forall_mem_cons.mpr ⟨kf_X8_gatherCuts_143 (ok_X8_gatherCuts_143 G hca k33 hk33), fun _ h => absurd h List.not_mem_nil⟩⟩) ((e_X8_gatherCuts_54 F (f_X8_gatherCuts_99 F k33 (f_X8_gatherCuts_54 F k33 n)) (f_X8_gatherCuts_143 F k33) x0 x1 x2 x3 x4 x5 M).symm.trans h)
theorem e_X8_gatherCuts_33 (F : Nat) (t54 : Nat → Int32 → Int32 → Int32 → Int32 → Int32 → cM → Option (cM)) (x0 : Nat) (x1 : Int32) (x2 : Int32) (x3 : Int32) (M : cM) : b_X8_gatherCuts_33 F t54 x0 x1 x2 x3 M = run T_X8_gatherCuts P_RX8 false 5 (naL na_X8_gatherCuts) (caL (ca_X8_gatherCuts F)) (lkN th_X8_gatherCuts) (lkN sw_X8_gatherCuts) krV kxN (spL [54]) (KL [(54, kd_X8_gatherCuts_54 t54)]) 97 33 [some (.ref x0), some (.int x1), some (.int x2), some (.int x3), none, none, none] [] M := rfl
theorem ok_X8_gatherCuts_33 {X : cCtx} {D : Nat} {r : cM} (G : FX X 7 (eV r) cX8_gatherCuts RX8 5 D) {F : Nat} (hca : ∀ x ∈ (ca_X8_gatherCuts (R' := cM) F), 1 ≤ D ∧ ceS X.1 RX8 (D - 1) x.1 x.2) (n : Nat) : ∀ x0 x1 x2 x3 M, f_X8_gatherCuts_33 F n x0 x1 x2 x3 M = some r → WX X 7 (eV r) 33 [some (.ref x0), some (.int x1), some (.int x2), some (.int x3), none, none, none] [] M := by
  induction n with
  | zero => intro x0 x1 x2 x3 M h; cases h
  | succ n ih =>
    intro x0 x1 x2 x3 M h
    exact seg_ok G P_RX8_ok T_X8_gatherCuts_ok hca (fun _ h => absurd h List.not_mem_nil) sw_X8_gatherCuts_ok krV_ok (kxN_ok (f := eV)) (List.forall_mem_cons.mpr ⟨kf_X8_gatherCuts_54 (ok_X8_gatherCuts_54 G hca (f_X8_gatherCuts_33 F n) ih F), fun _ h => absurd h List.not_mem_nil⟩) ((e_X8_gatherCuts_33 F (f_X8_gatherCuts_54 F (f_X8_gatherCuts_33 F n) F) x0 x1 x2 x3 M).symm.trans h)
theorem e_X8_gatherCuts_2 (F : Nat) (t2 : Nat → Int32 → Int32 → Int32 → cM → Option (cM)) (t33 : Nat → Int32 → Int32 → Int32 → cM → Option (cM)) (x0 : Nat) (x1 : Int32) (x2 : Int32) (x3 : Int32) (M : cM) : b_X8_gatherCuts_2 F t2 t33 x0 x1 x2 x3 M = run T_X8_gatherCuts P_RX8 false 5 (naL na_X8_gatherCuts) (caL (ca_X8_gatherCuts F)) (lkN th_X8_gatherCuts) (lkN sw_X8_gatherCuts) krV kxN (spL [2, 33]) (KL [(2, kd_X8_gatherCuts_2 t2), (33, kd_X8_gatherCuts_33 t33)]) 97 2 [some (.ref x0), some (.int x1), some (.int x2), some (.int x3), none, none, none] [] M := rfl
theorem ok_X8_gatherCuts_2 {X : cCtx} {D : Nat} {r : cM} (G : FX X 7 (eV r) cX8_gatherCuts RX8 5 D) {F : Nat} (hca : ∀ x ∈ (ca_X8_gatherCuts (R' := cM) F), 1 ≤ D ∧ ceS X.1 RX8 (D - 1) x.1 x.2) (n : Nat) : ∀ x0 x1 x2 x3 M, f_X8_gatherCuts_2 F n x0 x1 x2 x3 M = some r → WX X 7 (eV r) 2 [some (.ref x0), some (.int x1), some (.int x2), some (.int x3), none, none, none] [] M := by
  induction n with
  | zero => intro x0 x1 x2 x3 M h; cases h
  | succ n ih =>
    intro x0 x1 x2 x3 M h
    exact seg_ok G P_RX8_ok T_X8_gatherCuts_ok hca (fun _ h => absurd h List.not_mem_nil) sw_X8_gatherCuts_ok krV_ok (kxN_ok (f := eV)) (List.forall_mem_cons.mpr ⟨kf_X8_gatherCuts_2 (ih), List.forall_mem_cons.mpr ⟨kf_X8_gatherCuts_33 (ok_X8_gatherCuts_33 G hca F), fun _ h => absurd h List.not_mem_nil⟩⟩) ((e_X8_gatherCuts_2 F (f_X8_gatherCuts_2 F n) (f_X8_gatherCuts_33 F F) x0 x1 x2 x3 M).symm.trans h)
theorem e_X8_gatherCuts_0 (F : Nat) (t2 : Nat → Int32 → Int32 → Int32 → cM → Option (cM)) (x0 : Nat) (x1 : Int32) (x2 : Int32) (M : cM) : b_X8_gatherCuts_0 F t2 x0 x1 x2 M = run T_X8_gatherCuts P_RX8 false 5 (naL na_X8_gatherCuts) (caL (ca_X8_gatherCuts F)) (lkN th_X8_gatherCuts) (lkN sw_X8_gatherCuts) krV kxN (spL [2]) (KL [(2, kd_X8_gatherCuts_2 t2)]) 97 0 [some (.ref x0), some (.int x1), some (.int x2), none, none, none, none] [] M := rfl
theorem ok_X8_gatherCuts_0 {X : cCtx} {D : Nat} {r : cM} (G : FX X 7 (eV r) cX8_gatherCuts RX8 5 D) {F : Nat} (hca : ∀ x ∈ (ca_X8_gatherCuts (R' := cM) F), 1 ≤ D ∧ ceS X.1 RX8 (D - 1) x.1 x.2) : ∀ x0 x1 x2 M, f_X8_gatherCuts_0 F x0 x1 x2 M = some r → WX X 7 (eV r) 0 [some (.ref x0), some (.int x1), some (.int x2), none, none, none, none] [] M := by
  intro x0 x1 x2 M h
  exact seg_ok G P_RX8_ok T_X8_gatherCuts_ok hca (fun _ h => absurd h List.not_mem_nil) sw_X8_gatherCuts_ok krV_ok (kxN_ok (f := eV)) (List.forall_mem_cons.mpr ⟨kf_X8_gatherCuts_2 (ok_X8_gatherCuts_2 G hca F), fun _ h => absurd h List.not_mem_nil⟩) ((e_X8_gatherCuts_0 F (f_X8_gatherCuts_2 F F) x0 x1 x2 M).symm.trans h)
theorem c_X8_gatherCuts {q : cL} (hst : q.1.stackTraces = false) {D : Nat} (hD : 2 ≤ D) (F : Nat) (a0 : Nat) (a1 : Int32) (a2 : Int32) (M : cM) (r : cM) (h : f_X8_gatherCuts F a0 a1 a2 M = some r) : CTx q yX8_gatherCuts (.code yX8_gatherCuts cX8_gatherCuts 7 none) D [.ref a0, .int a1, .int a2] M (eV r) ∧ ∃ fs, M[a0]? = some (.inr (6, fs)) := by
  unfold f_X8_gatherCuts at h
  split at h
  · next hi => exact ⟨CTx_of (own := RX8) (rk := 5) hst (by decide +kernel) rfl (rfl) (Nat.le_of_ble_eq_true rfl) (fun X hX G => by subst hX; exact ok_X8_gatherCuts_0 G (ca_X8_gatherCuts_ok hst hD F) a0 a1 a2 M h), isC_of hi⟩
  · cases h
def n_X8_gatherCuts {R' : Type} (f : Nat → Int32 → Int32 → cM → Option (cM)) : cFn R' := fun as M κ κx => match as with
  | [.ref a0, .int a1, .int a2] => (f a0 a1 a2 M).bind fun p => κ none p
  | _ => none
theorem w_X8_gatherCuts : ∀ w ∈ [Cond.instanceMethod yX8_gatherCuts, .selects yX8_gatherCuts.cls yX8_gatherCuts yX8_gatherCuts, .initialized yX8_gatherCuts.cls, .code yX8_gatherCuts cX8_gatherCuts 7 none], w ∈ lw_good := List.forall_mem_cons.mpr ⟨lw_good_of (tb_ok 810 (by decide +kernel)) rfl, List.forall_mem_cons.mpr ⟨lw_good_of (ts_ok 9 (by decide +kernel)) rfl, List.forall_mem_cons.mpr ⟨lw_good_of (tb_ok 9 (by decide +kernel)) rfl, List.forall_mem_cons.mpr ⟨lw_good_of (tb_ok 811 (by decide +kernel)) rfl, fun _ h => absurd h List.not_mem_nil⟩⟩⟩⟩
theorem n_X8_gatherCuts_ok {R' : Type} {q : cL} {own : String} {d k : Nat} {f : Nat → Int32 → Int32 → cM → Option (cM)} (hl : Cond.methodLink own k yX8_gatherCuts ∈ lw_good) (hf : ∀ a0 a1 a2 M r, f a0 a1 a2 M = some r → CTx q yX8_gatherCuts (.code yX8_gatherCuts cX8_gatherCuts 7 none) d [.ref a0, .int a1, .int a2] M (eV r) ∧ ∃ fs, M[a0]? = some (.inr (6, fs))) : ceS q own d (3 * k + 1) (n_X8_gatherCuts (R' := R') f) := by
  intro as M κ κx r h
  unfold n_X8_gatherCuts at h
  split at h
  · obtain ⟨p, h1, h2⟩ := Option.bind_eq_some_iff.mp h
    obtain ⟨hc, fs, ha⟩ := hf _ _ _ _ _ h1
    exact ⟨eV p, fun _ => h2, fun hne => absurd rfl hne, Or.inr (Or.inl ⟨yX8_gatherCuts, cX8_gatherCuts, 7, none, k, 2, _, _, 6, TX8, 14, fs, rfl, rfl, hc, ha, rfl, List.forall_mem_cons.mpr ⟨hl, w_X8_gatherCuts⟩, ⟨rfl, by decide +kernel, by decide +kernel, by decide +kernel⟩, rfl, by decide⟩)⟩
  · cases h
