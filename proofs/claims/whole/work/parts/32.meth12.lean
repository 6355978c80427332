/-! METHODS, part 12 (laid by wip/whole/tools/gen.py) -/
-- PatchbayScriptModel.laysLine(I)V
def T_X12_laysLine : List cRow := [(0, .aload_n 0, 1, 0), (1, .aload_n 0, 2, 0), (2, .getfield 13, 5, 0), (5, .bipush 20, 7, 0), (7, .iload_n 1, 8, 0), (8, .imul, 9, 0), (9, .aload_n 0, 10, 0), (10, .getfield 16, 13, 0), (13, .iload_n 1, 14, 0), (14, .iaload, 15, 0), (15, .invokevirtual 259, 18, 0), (18, .bipush 40, 20, 0), (20, .iload_n 1, 21, 0), (21, .imul, 22, 0), (22, .istore_n 2, 23, 0), (23, .iload_n 2, 24, 0), (24, .bipush 40, 26, 0), (26, .iload_n 1, 27, 0), (27, .imul, 28, 0), (28, .aload_n 0, 29, 0), (29, .getfield 19, 32, 0), (32, .iload_n 1, 33, 0), (33, .iaload, 34, 0), (34, .iadd, 35, 0), (35, .if_icmp .ge 86, 38, 121), (38, .aload_n 0, 39, 0), (39, .getfield 22, 42, 0), (42, .iload_n 2, 43, 0), (43, .iaload, 44, 0), (44, .istore_n 3, 45, 0), (45, .iload_n 3, 46, 0), (46, .ifCond .ge 28, 49, 74), (49, .aload_n 0, 50, 0), (50, .aload_n 0, 51, 0), (51, .getfield 37, 54, 0), (54, .bipush 20, 56, 0), (56, .iconst (-1), 57, 0), (57, .iload_n 3, 58, 0), (58, .isub, 59, 0), (59, .imul, 60, 0), (60, .aload_n 0, 61, 0), (61, .getfield 40, 64, 0), (64, .iconst (-1), 65, 0), (65, .iload_n 3, 66, 0), (66, .isub, 67, 0), (67, .iaload, 68, 0), (68, .invokevirtual 259, 71, 0), (71, .goto 44, 74, 115), (74, .aload_n 0, 75, 0), (75, .getfield 83, 78, 0), (78, .iload_n 3, 79, 0), (79, .baload, 80, 0), (80, .ifCond .ne 35, 83, 115), (83, .aload_n 0, 84, 0), (84, .bipush 6, 86, 0), (86, .iconst 2, 87, 0), (87, .iload_n 3, 88, 0), (88, .imul, 89, 0), (89, .iadd, 90, 0), (90, .aload_n 0, 91, 0), (91, .getfield 86, 94, 0), (94, .iload_n 3, 95, 0), (95, .iaload, 96, 0), (96, .invokevirtual 263, 99, 0), (99, .ifCond .eq 16, 102, 115), (102, .aload_n 0, 103, 0), (103, .aload_n 0, 104, 0), (104, .getfield 125, 107, 0), (107, .iconst 0, 108, 0), (108, .aload_n 0, 109, 0), (109, .getfield 228, 112, 0), (112, .invokevirtual 259, 115, 0), (115, .iinc 2 1, 118, 0), (118, .goto (-95), 121, 23), (121, .return_, 122, 0)]
theorem T_X12_laysLine_ok : T_X12_laysLine.all (rowB cX12_laysLine) = true := by decide +kernel
def th_X12_laysLine : List (Nat × Nat) := []
def sw_X12_laysLine : List (Nat × (List (Int32 × Nat) × Nat)) := []
theorem sw_X12_laysLine_ok : ∀ q ∈ sw_X12_laysLine, swS cX12_laysLine q := fun _ h => absurd h List.not_mem_nil
def na_X12_laysLine : List (Nat × Nat) := [(778, 4), (790, 3)]
def ca_X12_laysLine {R' : Type} (F : Nat) : List (Nat × cFn R') := [(778, n_X12_takes (f_X12_takes F)), (790, n_X12_makesBy (f_X12_makesBy F))]
theorem ca_X12_laysLine_ok {R' : Type} {q : cL} (hst : q.1.stackTraces = false) {D : Nat} (hD : 5 ≤ D) (F : Nat) : ∀ x ∈ (ca_X12_laysLine (R' := R') F), 1 ≤ D ∧ ceS q RX12 (D - 1) x.1 x.2 := List.forall_mem_cons.mpr ⟨⟨by omega, n_X12_takes_ok (k := 259) (lw_good_of (tb_ok 1367 (by decide +kernel)) rfl) (fun a0 a1 a2 a3 M r h => c_X12_takes hst (by omega) F a0 a1 a2 a3 M r h)⟩, List.forall_mem_cons.mpr ⟨⟨by omega, n_X12_makesBy_ok (k := 263) (lw_good_of (tb_ok 1378 (by decide +kernel)) rfl) (fun a0 a1 a2 M r h => c_X12_makesBy hst (by omega) F a0 a1 a2 M r h)⟩, fun _ h => absurd h List.not_mem_nil⟩⟩
def kd_X12_laysLine_23 (g : Nat → Int32 → Int32 → cM → Option (cM)) : cKf (cM) := fun vs st M => (lR vs 0).bind fun x0 => (lI vs 1).bind fun x1 => (lI vs 2).bind fun x2 => match st with
  | [] => g x0 x1 x2 M
  | _ => none
theorem kf_X12_laysLine_23 {X : cCtx} {o : cO} {r : cM} {g : Nat → Int32 → Int32 → cM → Option (cM)} (hg : ∀ x0 x1 x2 M, g x0 x1 x2 M = some r → WX X 4 o 23 [some (.ref x0), some (.int x1), some (.int x2), none] [] M) : ∀ vs st M, kd_X12_laysLine_23 g vs st M = some r → WX X 4 o 23 vs st M := by
  intro vs st M h
  unfold kd_X12_laysLine_23 at h
  obtain ⟨x0, h0, h⟩ := Option.bind_eq_some_iff.mp h
  obtain ⟨x1, h1, h⟩ := Option.bind_eq_some_iff.mp h
  obtain ⟨x2, h2, h⟩ := Option.bind_eq_some_iff.mp h
  split at h
  · exact WX_weak (hg _ _ _ _ h) rfl ⟨lR_of h0, lI_of h1, lI_of h2, trivial⟩
  · cases h
def kd_X12_laysLine_83 (g : Nat → Int32 → Int32 → Int32 → cM → Option (cM)) : cKf (cM) := fun vs st M => (lR vs 0).bind fun x0 => (lI vs 1).bind fun x1 => (lI vs 2).bind fun x2 => (lI vs 3).bind fun x3 => match st with
  | [] => g x0 x1 x2 x3 M
  | _ => none
theorem kf_X12_laysLine_83 {X : cCtx} {o : cO} {r : cM} {g : Nat → Int32 → Int32 → Int32 → cM → Option (cM)} (hg : ∀ x0 x1 x2 x3 M, g x0 x1 x2 x3 M = some r → WX X 4 o 83 [some (.ref x0), some (.int x1), some (.int x2), some (.int x3)] [] M) : ∀ vs st M, kd_X12_laysLine_83 g vs st M = some r → WX X 4 o 83 vs st M := by
  intro vs st M h
  unfold kd_X12_laysLine_83 at h
  obtain ⟨x0, h0, h⟩ := Option.bind_eq_some_iff.mp h
  obtain ⟨x1, h1, h⟩ := Option.bind_eq_some_iff.mp h
  obtain ⟨x2, h2, h⟩ := Option.bind_eq_some_iff.mp h
  obtain ⟨x3, h3, h⟩ := Option.bind_eq_some_iff.mp h
  split at h
  · exact WX_weak (hg _ _ _ _ _ h) rfl ⟨lR_of h0, lI_of h1, lI_of h2, lI_of h3, trivial⟩
  · cases h
set_option maxRecDepth 20000 in
theorem e_X12_laysLine_83 (F : Nat) (t23 : Nat → Int32 → Int32 → cM → Option (cM)) (x0 : Nat) (x1 : Int32) (x2 : Int32) (x3 : Int32) (M : cM) : b_X12_laysLine_83 F t23 x0 x1 x2 x3 M = run T_X12_laysLine P_RX12 false 5 (naL na_X12_laysLine) (caL (ca_X12_laysLine F)) (lkN th_X12_laysLine) (lkN sw_X12_laysLine) krV kxN (spL [23]) (KL [(23, kd_X12_laysLine_23 t23)]) 78 83 [some (.ref x0), some (.int x1), some (.int x2), some (.int x3)] [] M := rfl
theorem ok_X12_laysLine_83 {X : cCtx} {D : Nat} {r : cM} (G : FX X 4 (eV r) cX12_laysLine RX12 5 D) {F : Nat} (hca : ∀ x ∈ (ca_X12_laysLine (R' := cM) F), 1 ≤ D ∧ ceS X.1 RX12 (D - 1) x.1 x.2) (k23 : Nat → Int32 → Int32 → cM → Option (cM)) (hk23 : ∀ x0 x1 x2 M, k23 x0 x1 x2 M = some r → WX X 4 (eV r) 23 [some (.ref x0), some (.int x1), some (.int x2), none] [] M) : ∀ x0 x1 x2 x3 M, f_X12_laysLine_83 F k23 x0 x1 x2 x3 M = some r → WX X 4 (eV r) 83 [some (.ref x0), some (.int x1), some (.int x2), some (.int x3)] [] M := by
  intro x0 x1 x2 x3 M h
  exact seg_ok G P_RX12_ok T_X12_laysLine_ok hca (fun _ h => absurd h List.not_mem_nil) sw_X12_laysLine_ok krV_ok (kxN_ok (f := eV)) (List.forall_mem_cons.mpr ⟨kf_X12_laysLine_23 (hk23), fun _ h => absurd h List.not_mem_nil⟩) ((e_X12_laysLine_83 F (k23) x0 x1 x2 x3 M).symm.trans h)
set_option maxRecDepth 20000 in
theorem e_X12_laysLine_23 (F : Nat) (t23 : Nat → Int32 → Int32 → cM → Option (cM)) (t83 : Nat → Int32 → Int32 → Int32 → cM → Option (cM)) (x0 : Nat) (x1 : Int32) (x2 : Int32) (M : cM) : b_X12_laysLine_23 F t23 t83 x0 x1 x2 M = run T_X12_laysLine P_RX12 false 5 (naL na_X12_laysLine) (caL (ca_X12_laysLine F)) (lkN th_X12_laysLine) (lkN sw_X12_laysLine) krV kxN (spL [23, 83]) (KL [(23, kd_X12_laysLine_23 t23), (83, kd_X12_laysLine_83 t83)]) 78 23 [some (.ref x0), some (.int x1), some (.int x2), none] [] M := rfl
theorem ok_X12_laysLine_23 {X : cCtx} {D : Nat} {r : cM} (G : FX X 4 (eV r) cX12_laysLine RX12 5 D) {F : Nat} (hca : ∀ x ∈ (ca_X12_laysLine (R' := cM) F), 1 ≤ D ∧ ceS X.1 RX12 (D - 1) x.1 x.2) (n : Nat) : ∀ x0 x1 x2 M, f_X12_laysLine_23 F n x0 x1 x2 M = some r → WX X 4 (eV r) 23 [some (.ref x0), some (.int x1), some (.int x2), none] [] M := by
  induction n with
  | zero => intro x0 x1 x2 M h; cases h
  | succ n ih =>
    intro x0 x1 x2 M h
    exact seg_ok G P_RX12_ok T_X12_laysLine_ok hca (fun _ h => absurd h List.not_mem_nil) sw_X12_laysLine_ok krV_ok (kxN_ok (f := eV)) (List.forall_mem_cons.mpr ⟨kf_X12_laysLine_23 (ih), List.forall_mem_cons.mpr ⟨kf_X12_laysLine_83 (ok_X12_laysLine_83 G hca (f_X12_laysLine_23 F n) ih), fun _ h => absurd h List.not_mem_nil⟩⟩) ((e_X12_laysLine_23 F (f_X12_laysLine_23 F n) (f_X12_laysLine_83 F (f_X12_laysLine_23 F n)) x0 x1 x2 M).symm.trans h)
set_option maxRecDepth 20000 in
theorem e_X12_laysLine_0 (F : Nat) (t23 : Nat → Int32 → Int32 → cM → Option (cM)) (x0 : Nat) (x1 : Int32) (M : cM) : b_X12_laysLine_0 F t23 x0 x1 M = run T_X12_laysLine P_RX12 false 5 (naL na_X12_laysLine) (caL (ca_X12_laysLine F)) (lkN th_X12_laysLine) (lkN sw_X12_laysLine) krV kxN (spL [23]) (KL [(23, kd_X12_laysLine_23 t23)]) 78 0 [some (.ref x0), some (.int x1), none, none] [] M := rfl
theorem ok_X12_laysLine_0 {X : cCtx} {D : Nat} {r : cM} (G : FX X 4 (eV r) cX12_laysLine RX12 5 D) {F : Nat} (hca : ∀ x ∈ (ca_X12_laysLine (R' := cM) F), 1 ≤ D ∧ ceS X.1 RX12 (D - 1) x.1 x.2) : ∀ x0 x1 M, f_X12_laysLine_0 F x0 x1 M = some r → WX X 4 (eV r) 0 [some (.ref x0), some (.int x1), none, none] [] M := by
  intro x0 x1 M h
  exact seg_ok G P_RX12_ok T_X12_laysLine_ok hca (fun _ h => absurd h List.not_mem_nil) sw_X12_laysLine_ok krV_ok (kxN_ok (f := eV)) (List.forall_mem_cons.mpr ⟨kf_X12_laysLine_23 (ok_X12_laysLine_23 G hca F), fun _ h => absurd h List.not_mem_nil⟩) ((e_X12_laysLine_0 F (f_X12_laysLine_23 F F) x0 x1 M).symm.trans h)
theorem c_X12_laysLine {q : cL} (hst : q.1.stackTraces = false) {D : Nat} (hD : 5 ≤ D) (F : Nat) (a0 : Nat) (a1 : Int32) (M : cM) (r : cM) (h : f_X12_laysLine F a0 a1 M = some r) : CTx q yX12_laysLine (.code yX12_laysLine cX12_laysLine 4 none) D [.ref a0, .int a1] M (eV r) ∧ ∃ fs, M[a0]? = some (.inr (10, fs)) := by
  unfold f_X12_laysLine at h
  split at h
  · next hi => exact ⟨CTx_of (own := RX12) (rk := 5) hst (by decide +kernel) rfl (rfl) (Nat.le_of_ble_eq_true rfl) (fun X hX G => by subst hX; exact ok_X12_laysLine_0 G (ca_X12_laysLine_ok hst hD F) a0 a1 M h), isC_of hi⟩
  · cases h
def n_X12_laysLine {R' : Type} (f : Nat → Int32 → cM → Option (cM)) : cFn R' := fun as M κ κx => match as with
  | [.ref a0, .int a1] => (f a0 a1 M).bind fun p => κ none p
  | _ => none
theorem w_X12_laysLine : ∀ w ∈ [Cond.instanceMethod yX12_laysLine, .selects yX12_laysLine.cls yX12_laysLine yX12_laysLine, .initialized yX12_laysLine.cls, .code yX12_laysLine cX12_laysLine 4 none], w ∈ lw_good := List.forall_mem_cons.mpr ⟨lw_good_of (tb_ok 1365 (by decide +kernel)) rfl, List.forall_mem_cons.mpr ⟨lw_good_of (ts_ok 33 (by decide +kernel)) rfl, List.forall_mem_cons.mpr ⟨lw_good_of (tb_ok 11 (by decide +kernel)) rfl, List.forall_mem_cons.mpr ⟨lw_good_of (tb_ok 1366 (by decide +kernel)) rfl, fun _ h => absurd h List.not_mem_nil⟩⟩⟩⟩
theorem n_X12_laysLine_ok {R' : Type} {q : cL} {own : String} {d k : Nat} {f : Nat → Int32 → cM → Option (cM)} (hl : Cond.methodLink own k yX12_laysLine ∈ lw_good) (hf : ∀ a0 a1 M r, f a0 a1 M = some r → CTx q yX12_laysLine (.code yX12_laysLine cX12_laysLine 4 none) d [.ref a0, .int a1] M (eV r) ∧ ∃ fs, M[a0]? = some (.inr (10, fs))) : ceS q own d (3 * k + 1) (n_X12_laysLine (R' := R') f) := by
  intro as M κ κx r h
  unfold n_X12_laysLine at h
  split at h
  · obtain ⟨p, h1, h2⟩ := Option.bind_eq_some_iff.mp h
    obtain ⟨hc, fs, ha⟩ := hf _ _ _ _ h1
    exact ⟨eV p, fun _ => h2, fun hne => absurd rfl hne, Or.inr (Or.inl ⟨yX12_laysLine, cX12_laysLine, 4, none, k, 1, _, _, 10, TX12, 76, fs, rfl, rfl, hc, ha, rfl, List.forall_mem_cons.mpr ⟨hl, w_X12_laysLine⟩, ⟨rfl, by decide +kernel, by decide +kernel, by decide +kernel⟩, rfl, by decide⟩)⟩
  · cases h
-- PatchbayScriptModel.isShownOn(II)Z
def T_X12_isShownOn : List cRow := [(0, .iconst 0, 1, 0), (1, .istore_n 3, 2, 0), (2, .iconst 4, 3, 0), (3, .iload_n 1, 4, 0), (4, .imul, 5, 0), (5, .istore 4, 7, 0), (7, .iload 4, 9, 0), (9, .iconst 4, 10, 0), (10, .iload_n 1, 11, 0), (11, .imul, 12, 0), (12, .aload_n 0, 13, 0), (13, .getfield 25, 16, 0), (16, .iload_n 1, 17, 0), (17, .iaload, 18, 0), (18, .iadd, 19, 0), (19, .if_icmp .ge 30, 22, 49), (22, .iload_n 3, 23, 0), (23, .ifCond .ne 14, 26, 37), (26, .aload_n 0, 27, 0), (27, .getfield 28, 30, 0), (30, .iload 4, 32, 0), (32, .iaload, 33, 0), (33, .iload_n 2, 34, 0), (34, .if_icmp .ne 7, 37, 41), (37, .iconst 1, 38, 0), (38, .goto 4, 41, 42), (41, .iconst 0, 42, 0), (42, .istore_n 3, 43, 0), (43, .iinc 4 1, 46, 0), (46, .goto (-39), 49, 7), (49, .iload_n 3, 50, 0), (50, .ireturn, 51, 0)]
theorem T_X12_isShownOn_ok : T_X12_isShownOn.all (rowB cX12_isShownOn) = true := by decide +kernel
def th_X12_isShownOn : List (Nat × Nat) := []
def sw_X12_isShownOn : List (Nat × (List (Int32 × Nat) × Nat)) := []
theorem sw_X12_isShownOn_ok : ∀ q ∈ sw_X12_isShownOn, swS cX12_isShownOn q := fun _ h => absurd h List.not_mem_nil
def na_X12_isShownOn : List (Nat × Nat) := []
def ca_X12_isShownOn {R' : Type} (F : Nat) : List (Nat × cFn R') := []
theorem ca_X12_isShownOn_ok {R' : Type} {q : cL} (hst : q.1.stackTraces = false) {D : Nat} (hD : 0 ≤ D) (F : Nat) : ∀ x ∈ (ca_X12_isShownOn (R' := R') F), 1 ≤ D ∧ ceS q RX12 (D - 1) x.1 x.2 := fun _ h => absurd h List.not_mem_nil
def kd_X12_isShownOn_7 (g : Nat → Int32 → Int32 → Int32 → Int32 → cM → Option (Int32 × cM)) : cKf (Int32 × cM) := fun vs st M => (lR vs 0).bind fun x0 => (lI vs 1).bind fun x1 => (lI vs 2).bind fun x2 => (lI vs 3).bind fun x3 => (lI vs 4).bind fun x4 => match st with
  | [] => g x0 x1 x2 x3 x4 M
  | _ => none
theorem kf_X12_isShownOn_7 {X : cCtx} {o : cO} {r : Int32 × cM} {g : Nat → Int32 → Int32 → Int32 → Int32 → cM → Option (Int32 × cM)} (hg : ∀ x0 x1 x2 x3 x4 M, g x0 x1 x2 x3 x4 M = some r → WX X 5 o 7 [some (.ref x0), some (.int x1), some (.int x2), some (.int x3), some (.int x4)] [] M) : ∀ vs st M, kd_X12_isShownOn_7 g vs st M = some r → WX X 5 o 7 vs st M := by
  intro vs st M h
  unfold kd_X12_isShownOn_7 at h
  obtain ⟨x0, h0, h⟩ := Option.bind_eq_some_iff.mp h
  obtain ⟨x1, h1, h⟩ := Option.bind_eq_some_iff.mp h
  obtain ⟨x2, h2, h⟩ := Option.bind_eq_some_iff.mp h
  obtain ⟨x3, h3, h⟩ := Option.bind_eq_some_iff.mp h
  obtain ⟨x4, h4, h⟩ := Option.bind_eq_some_iff.mp h
  split at h
  · exact WX_weak (hg _ _ _ _ _ _ h) rfl ⟨lR_of h0, lI_of h1, lI_of h2, lI_of h3, lI_of h4, trivial⟩
  · cases h
set_option maxRecDepth 20000 in
theorem e_X12_isShownOn_7 (F : Nat) (t7 : Nat → Int32 → Int32 → Int32 → Int32 → cM → Option (Int32 × cM)) (x0 : Nat) (x1 : Int32) (x2 : Int32) (x3 : Int32) (x4 : Int32) (M : cM) : b_X12_isShownOn_7 F t7 x0 x1 x2 x3 x4 M = run T_X12_isShownOn P_RX12 false 1 (naL na_X12_isShownOn) (caL (ca_X12_isShownOn F)) (lkN th_X12_isShownOn) (lkN sw_X12_isShownOn) krI kxN (spL [7]) (KL [(7, kd_X12_isShownOn_7 t7)]) 35 7 [some (.ref x0), some (.int x1), some (.int x2), some (.int x3), some (.int x4)] [] M := rfl
theorem ok_X12_isShownOn_7 {X : cCtx} {D : Nat} {r : Int32 × cM} (G : FX X 5 (eI r) cX12_isShownOn RX12 1 D) {F : Nat} (hca : ∀ x ∈ (ca_X12_isShownOn (R' := Int32 × cM) F), 1 ≤ D ∧ ceS X.1 RX12 (D - 1) x.1 x.2) (n : Nat) : ∀ x0 x1 x2 x3 x4 M, f_X12_isShownOn_7 F n x0 x1 x2 x3 x4 M = some r → WX X 5 (eI r) 7 [some (.ref x0), some (.int x1), some (.int x2), some (.int x3), some (.int x4)] [] M := by
  induction n with
  | zero => intro x0 x1 x2 x3 x4 M h; cases h
  | succ n ih =>
    intro x0 x1 x2 x3 x4 M h
    exact seg_ok G P_RX12_ok T_X12_isShownOn_ok hca (fun _ h => absurd h List.not_mem_nil) sw_X12_isShownOn_ok krI_ok (kxN_ok (f := eI)) (List.forall_mem_cons.mpr ⟨kf_X12_isShownOn_7 (ih), fun _ h => absurd h List.not_mem_nil⟩) ((e_X12_isShownOn_7 F (f_X12_isShownOn_7 F n) x0 x1 x2 x3 x4 M).symm.trans h)
set_option maxRecDepth 20000 in
theorem e_X12_isShownOn_0 (F : Nat) (t7 : Nat → Int32 → Int32 → Int32 → Int32 → cM → Option (Int32 × cM)) (x0 : Nat) (x1 : Int32) (x2 : Int32) (M : cM) : b_X12_isShownOn_0 F t7 x0 x1 x2 M = run T_X12_isShownOn P_RX12 false 1 (naL na_X12_isShownOn) (caL (ca_X12_isShownOn F)) (lkN th_X12_isShownOn) (lkN sw_X12_isShownOn) krI kxN (spL [7]) (KL [(7, kd_X12_isShownOn_7 t7)]) 35 0 [some (.ref x0), some (.int x1), some (.int x2), none, none] [] M := rfl
theorem ok_X12_isShownOn_0 {X : cCtx} {D : Nat} {r : Int32 × cM} (G : FX X 5 (eI r) cX12_isShownOn RX12 1 D) {F : Nat} (hca : ∀ x ∈ (ca_X12_isShownOn (R' := Int32 × cM) F), 1 ≤ D ∧ ceS X.1 RX12 (D - 1) x.1 x.2) : ∀ x0 x1 x2 M, f_X12_isShownOn_0 F x0 x1 x2 M = some r → WX X 5 (eI r) 0 [some (.ref x0), some (.int x1), some (.int x2), none, none] [] M := by
  intro x0 x1 x2 M h
  exact seg_ok G P_RX12_ok T_X12_isShownOn_ok hca (fun _ h => absurd h List.not_mem_nil) sw_X12_isShownOn_ok krI_ok (kxN_ok (f := eI)) (List.forall_mem_cons.mpr ⟨kf_X12_isShownOn_7 (ok_X12_isShownOn_7 G hca F), fun _ h => absurd h List.not_mem_nil⟩) ((e_X12_isShownOn_0 F (f_X12_isShownOn_7 F F) x0 x1 x2 M).symm.trans h)
theorem c_X12_isShownOn {q : cL} (hst : q.1.stackTraces = false) {D : Nat} (hD : 0 ≤ D) (F : Nat) (a0 : Nat) (a1 : Int32) (a2 : Int32) (M : cM) (r : Int32 × cM) (h : f_X12_isShownOn F a0 a1 a2 M = some r) : CTx q yX12_isShownOn (.code yX12_isShownOn cX12_isShownOn 5 (some .boolean)) D [.ref a0, .int a1, .int a2] M (eI r) ∧ ∃ fs, M[a0]? = some (.inr (10, fs)) := by
  unfold f_X12_isShownOn at h
  split at h
  · next hi => exact ⟨CTx_of (own := RX12) (rk := 1) hst (by decide +kernel) rfl (rfl) (Nat.le_of_ble_eq_true rfl) (fun X hX G => by subst hX; exact ok_X12_isShownOn_0 G (ca_X12_isShownOn_ok hst hD F) a0 a1 a2 M h), isC_of hi⟩
  · cases h
def n_X12_isShownOn {R' : Type} (f : Nat → Int32 → Int32 → cM → Option (Int32 × cM)) : cFn R' := fun as M κ κx => match as with
  | [.ref a0, .int a1, .int a2] => (f a0 a1 a2 M).bind fun p => κ (some (.int p.1)) p.2
  | _ => none
theorem w_X12_isShownOn : ∀ w ∈ [Cond.instanceMethod yX12_isShownOn, .selects yX12_isShownOn.cls yX12_isShownOn yX12_isShownOn, .initialized yX12_isShownOn.cls, .code yX12_isShownOn cX12_isShownOn 5 (some .boolean)], w ∈ lw_good := List.forall_mem_cons.mpr ⟨lw_good_of (tb_ok 1440 (by decide +kernel)) rfl, List.forall_mem_cons.mpr ⟨lw_good_of (ts_ok 44 (by decide +kernel)) rfl, List.forall_mem_cons.mpr ⟨lw_good_of (tb_ok 11 (by decide +kernel)) rfl, List.forall_mem_cons.mpr ⟨lw_good_of (tb_ok 1441 (by decide +kernel)) rfl, fun _ h => absurd h List.not_mem_nil⟩⟩⟩⟩
theorem n_X12_isShownOn_ok {R' : Type} {q : cL} {own : String} {d k : Nat} {f : Nat → Int32 → Int32 → cM → Option (Int32 × cM)} (hl : Cond.methodLink own k yX12_isShownOn ∈ lw_good) (hf : ∀ a0 a1 a2 M r, f a0 a1 a2 M = some r → CTx q yX12_isShownOn (.code yX12_isShownOn cX12_isShownOn 5 (some .boolean)) d [.ref a0, .int a1, .int a2] M (eI r) ∧ ∃ fs, M[a0]? = some (.inr (10, fs))) : ceS q own d (3 * k + 1) (n_X12_isShownOn (R' := R') f) := by
  intro as M κ κx r h
  unfold n_X12_isShownOn at h
  split at h
  · obtain ⟨p, h1, h2⟩ := Option.bind_eq_some_iff.mp h
    obtain ⟨hc, fs, ha⟩ := hf _ _ _ _ _ h1
    exact ⟨eI p, fun _ => h2, fun hne => absurd rfl hne, Or.inr (Or.inl ⟨yX12_isShownOn, cX12_isShownOn, 5, (some .boolean), k, 2, _, _, 10, TX12, 76, fs, rfl, rfl, hc, ha, rfl, List.forall_mem_cons.mpr ⟨hl, w_X12_isShownOn⟩, ⟨rfl, by decide +kernel, by decide +kernel, by decide +kernel⟩, rfl, by decide⟩)⟩
  · cases h
-- PatchbayScriptModel.type(C)I
def T_X12_type : List cRow := [(0, .aload_n 0, 1, 0), (1, .iload_n 1, 2, 0), (2, .invokestatic 266, 5, 0), (5, .ifCond .ne 7, 8, 12), (8, .iconst 1, 9, 0), (9, .goto 17, 12, 26), (12, .aload_n 0, 13, 0), (13, .getfield 269, 16, 0), (16, .bipush 20, 18, 0), (18, .if_icmp .ne 7, 21, 25), (21, .iconst 2, 22, 0), (22, .goto 4, 25, 26), (25, .iconst 0, 26, 0), (26, .putfield 196, 29, 0), (29, .aload_n 0, 30, 0), (30, .getfield 196, 33, 0), (33, .ifCond .le 5, 36, 38), (36, .iconst 0, 37, 0), (37, .ireturn, 38, 0), (38, .aload_n 0, 39, 0), (39, .getfield 7, 42, 0), (42, .aload_n 0, 43, 0), (43, .getfield 269, 46, 0), (46, .iload_n 1, 47, 0), (47, .iastore, 48, 0), (48, .aload_n 0, 49, 0), (49, .dup, 50, 0), (50, .getfield 269, 53, 0), (53, .iconst 1, 54, 0), (54, .iadd, 55, 0), (55, .putfield 269, 58, 0), (58, .aload_n 0, 59, 0), (59, .getfield 269, 62, 0), (62, .ireturn, 63, 0)]
theorem T_X12_type_ok : T_X12_type.all (rowB cX12_type) = true := by decide +kernel
def th_X12_type : List (Nat × Nat) := []
def sw_X12_type : List (Nat × (List (Int32 × Nat) × Nat)) := []
theorem sw_X12_type_ok : ∀ q ∈ sw_X12_type, swS cX12_type q := fun _ h => absurd h List.not_mem_nil
def na_X12_type : List (Nat × Nat) := [(798, 1)]
def ca_X12_type {R' : Type} (F : Nat) : List (Nat × cFn R') := [(798, n_X12_isSign (f_X12_isSign F))]
theorem ca_X12_type_ok {R' : Type} {q : cL} (hst : q.1.stackTraces = false) {D : Nat} (hD : 3 ≤ D) (F : Nat) : ∀ x ∈ (ca_X12_type (R' := R') F), 1 ≤ D ∧ ceS q RX12 (D - 1) x.1 x.2 := List.forall_mem_cons.mpr ⟨⟨by omega, n_X12_isSign_ok (k := 266) (lw_good_of (tb_ok 1335 (by decide +kernel)) rfl) (fun a0 M r h => c_X12_isSign hst (by omega) F a0 M r h)⟩, fun _ h => absurd h List.not_mem_nil⟩
def kd_X12_type_26 (g : Nat → Int32 → Nat → Int32 → cM → Option (Int32 × cM)) : cKf (Int32 × cM) := fun vs st M => (lR vs 0).bind fun x0 => (lI vs 1).bind fun x1 => match st with
  | [.int s1, .ref s0] => g x0 x1 s0 s1 M
  | _ => none
theorem kf_X12_type_26 {X : cCtx} {o : cO} {r : Int32 × cM} {g : Nat → Int32 → Nat → Int32 → cM → Option (Int32 × cM)} (hg : ∀ x0 x1 s0 s1 M, g x0 x1 s0 s1 M = some r → WX X 2 o 26 [some (.ref x0), some (.int x1)] [.int s1, .ref s0] M) : ∀ vs st M, kd_X12_type_26 g vs st M = some r → WX X 2 o 26 vs st M := by
  intro vs st M h
  unfold kd_X12_type_26 at h
  obtain ⟨x0, h0, h⟩ := Option.bind_eq_some_iff.mp h
  obtain ⟨x1, h1, h⟩ := Option.bind_eq_some_iff.mp h
  split at h
  · exact WX_weak (hg _ _ _ _ _ h) rfl ⟨lR_of h0, lI_of h1, trivial⟩
  · cases h
set_option maxRecDepth 20000 in
theorem e_X12_type_26 (F : Nat) (x0 : Nat) (x1 : Int32) (s0 : Nat) (s1 : Int32) (M : cM) : b_X12_type_26 F x0 x1 s0 s1 M = run T_X12_type P_RX12 false 0 (naL na_X12_type) (caL (ca_X12_type F)) (lkN th_X12_type) (lkN sw_X12_type) krI kxN (spL []) (KL []) 37 26 [some (.ref x0), some (.int x1)] [.int s1, .ref s0] M := rfl
theorem ok_X12_type_26 {X : cCtx} {D : Nat} {r : Int32 × cM} (G : FX X 2 (eI r) cX12_type RX12 0 D) {F : Nat} (hca : ∀ x ∈ (ca_X12_type (R' := Int32 × cM) F), 1 ≤ D ∧ ceS X.1 RX12 (D - 1) x.1 x.2) : ∀ x0 x1 s0 s1 M, f_X12_type_26 F x0 x1 s0 s1 M = some r → WX X 2 (eI r) 26 [some (.ref x0), some (.int x1)] [.int s1, .ref s0] M := by
  intro x0 x1 s0 s1 M h
  exact seg_ok G P_RX12_ok T_X12_type_ok hca (fun _ h => absurd h List.not_mem_nil) sw_X12_type_ok krI_ok (kxN_ok (f := eI)) (fun _ h => absurd h List.not_mem_nil) ((e_X12_type_26 F x0 x1 s0 s1 M).symm.trans h)
set_option maxRecDepth 20000 in
theorem e_X12_type_0 (F : Nat) (t26 : Nat → Int32 → Nat → Int32 → cM → Option (Int32 × cM)) (x0 : Nat) (x1 : Int32) (M : cM) : b_X12_type_0 F t26 x0 x1 M = run T_X12_type P_RX12 false 0 (naL na_X12_type) (caL (ca_X12_type F)) (lkN th_X12_type) (lkN sw_X12_type) krI kxN (spL [26]) (KL [(26, kd_X12_type_26 t26)]) 37 0 [some (.ref x0), some (.int x1)] [] M := rfl
theorem ok_X12_type_0 {X : cCtx} {D : Nat} {r : Int32 × cM} (G : FX X 2 (eI r) cX12_type RX12 0 D) {F : Nat} (hca : ∀ x ∈ (ca_X12_type (R' := Int32 × cM) F), 1 ≤ D ∧ ceS X.1 RX12 (D - 1) x.1 x.2) : ∀ x0 x1 M, f_X12_type_0 F x0 x1 M = some r → WX X 2 (eI r) 0 [some (.ref x0), some (.int x1)] [] M := by
  intro x0 x1 M h
  exact seg_ok G P_RX12_ok T_X12_type_ok hca (fun _ h => absurd h List.not_mem_nil) sw_X12_type_ok krI_ok (kxN_ok (f := eI)) (List.forall_mem_cons.mpr ⟨kf_X12_type_26 (ok_X12_type_26 G hca), fun _ h => absurd h List.not_mem_nil⟩) ((e_X12_type_0 F (f_X12_type_26 F) x0 x1 M).symm.trans h)
theorem c_X12_type {q : cL} (hst : q.1.stackTraces = false) {D : Nat} (hD : 3 ≤ D) (F : Nat) (a0 : Nat) (a1 : Int32) (M : cM) (r : Int32 × cM) (h : f_X12_type F a0 a1 M = some r) : CTx q yX12_type (.code yX12_type cX12_type 2 (some .int)) D [.ref a0, .int a1] M (eI r) ∧ ∃ fs, M[a0]? = some (.inr (10, fs)) := by
  unfold f_X12_type at h
  split at h
  · next hi => exact ⟨CTx_of (own := RX12) (rk := 0) hst (by decide +kernel) rfl (rfl) (Nat.le_of_ble_eq_true rfl) (fun X hX G => by subst hX; exact ok_X12_type_0 G (ca_X12_type_ok hst hD F) a0 a1 M h), isC_of hi⟩
  · cases h
-- PatchbayScriptModel.begins(I)V
def T_X12_begins : List cRow := [(0, .aload_n 0, 1, 0), (1, .iconst 2, 2, 0), (2, .iload_n 1, 3, 0), (3, .imul, 4, 0), (4, .bipush 6, 6, 0), (6, .iconst 2, 7, 0), (7, .aload_n 0, 8, 0), (8, .getfield 272, 11, 0), (11, .imul, 12, 0), (12, .iadd, 13, 0), (13, .invokevirtual 382, 16, 0), (16, .aload_n 0, 17, 0), (17, .iconst 2, 18, 0), (18, .iload_n 1, 19, 0), (19, .imul, 20, 0), (20, .iconst 1, 21, 0), (21, .iadd, 22, 0), (22, .bipush 6, 24, 0), (24, .iconst 2, 25, 0), (25, .aload_n 0, 26, 0), (26, .getfield 272, 29, 0), (29, .imul, 30, 0), (30, .iadd, 31, 0), (31, .iconst 1, 32, 0), (32, .iadd, 33, 0), (33, .invokevirtual 382, 36, 0), (36, .aload_n 0, 37, 0), (37, .getfield 86, 40, 0), (40, .aload_n 0, 41, 0), (41, .getfield 272, 44, 0), (44, .aload_n 0, 45, 0), (45, .getfield 77, 48, 0), (48, .iload_n 1, 49, 0), (49, .iaload, 50, 0), (50, .iastore, 51, 0), (51, .aload_n 0, 52, 0), (52, .getfield 83, 55, 0), (55, .aload_n 0, 56, 0), (56, .getfield 272, 59, 0), (59, .iconst 0, 60, 0), (60, .bastore, 61, 0), (61, .aload_n 0, 62, 0), (62, .dup, 63, 0), (63, .getfield 272, 66, 0), (66, .iconst 1, 67, 0), (67, .iadd, 68, 0), (68, .putfield 272, 71, 0), (71, .return_, 72, 0)]
theorem T_X12_begins_ok : T_X12_begins.all (rowB cX12_begins) = true := by decide +kernel
def th_X12_begins : List (Nat × Nat) := []
def sw_X12_begins : List (Nat × (List (Int32 × Nat) × Nat)) := []
theorem sw_X12_begins_ok : ∀ q ∈ sw_X12_begins, swS cX12_begins q := fun _ h => absurd h List.not_mem_nil
def na_X12_begins : List (Nat × Nat) := [(1147, 3)]
def ca_X12_begins {R' : Type} (F : Nat) : List (Nat × cFn R') := [(1147, n_X12_copies (f_X12_copies F))]
theorem ca_X12_begins_ok {R' : Type} {q : cL} (hst : q.1.stackTraces = false) {D : Nat} (hD : 1 ≤ D) (F : Nat) : ∀ x ∈ (ca_X12_begins (R' := R') F), 1 ≤ D ∧ ceS q RX12 (D - 1) x.1 x.2 := List.forall_mem_cons.mpr ⟨⟨by omega, n_X12_copies_ok (k := 382) (lw_good_of (tb_ok 1355 (by decide +kernel)) rfl) (fun a0 a1 a2 M r h => c_X12_copies hst (by omega) F a0 a1 a2 M r h)⟩, fun _ h => absurd h List.not_mem_nil⟩
def kd_X12_begins_36 (g : Nat → Int32 → cM → Option (cM)) : cKf (cM) := fun vs st M => (lR vs 0).bind fun x0 => (lI vs 1).bind fun x1 => match st with
  | [] => g x0 x1 M
  | _ => none
theorem kf_X12_begins_36 {X : cCtx} {o : cO} {r : cM} {g : Nat → Int32 → cM → Option (cM)} (hg : ∀ x0 x1 M, g x0 x1 M = some r → WX X 2 o 36 [some (.ref x0), some (.int x1)] [] M) : ∀ vs st M, kd_X12_begins_36 g vs st M = some r → WX X 2 o 36 vs st M := by
  intro vs st M h
  unfold kd_X12_begins_36 at h
  obtain ⟨x0, h0, h⟩ := Option.bind_eq_some_iff.mp h
  obtain ⟨x1, h1, h⟩ := Option.bind_eq_some_iff.mp h
  split at h
  · exact WX_weak (hg _ _ _ h) rfl ⟨lR_of h0, lI_of h1, trivial⟩
  · cases h
set_option maxRecDepth 20000 in
theorem e_X12_begins_36 (F : Nat) (x0 : Nat) (x1 : Int32) (M : cM) : b_X12_begins_36 F x0 x1 M = run T_X12_begins P_RX12 false 5 (naL na_X12_begins) (caL (ca_X12_begins F)) (lkN th_X12_begins) (lkN sw_X12_begins) krV kxN (spL []) (KL []) 51 36 [some (.ref x0), some (.int x1)] [] M := rfl
theorem ok_X12_begins_36 {X : cCtx} {D : Nat} {r : cM} (G : FX X 2 (eV r) cX12_begins RX12 5 D) {F : Nat} (hca : ∀ x ∈ (ca_X12_begins (R' := cM) F), 1 ≤ D ∧ ceS X.1 RX12 (D - 1) x.1 x.2) : ∀ x0 x1 M, f_X12_begins_36 F x0 x1 M = some r → WX X 2 (eV r) 36 [some (.ref x0), some (.int x1)] [] M := by
  intro x0 x1 M h
  exact seg_ok G P_RX12_ok T_X12_begins_ok hca (fun _ h => absurd h List.not_mem_nil) sw_X12_begins_ok krV_ok (kxN_ok (f := eV)) (fun _ h => absurd h List.not_mem_nil) ((e_X12_begins_36 F x0 x1 M).symm.trans h)
set_option maxRecDepth 20000 in
theorem e_X12_begins_0 (F : Nat) (t36 : Nat → Int32 → cM → Option (cM)) (x0 : Nat) (x1 : Int32) (M : cM) : b_X12_begins_0 F t36 x0 x1 M = run T_X12_begins P_RX12 false 5 (naL na_X12_begins) (caL (ca_X12_begins F)) (lkN th_X12_begins) (lkN sw_X12_begins) krV kxN (spL [36]) (KL [(36, kd_X12_begins_36 t36)]) 51 0 [some (.ref x0), some (.int x1)] [] M := rfl
theorem ok_X12_begins_0 {X : cCtx} {D : Nat} {r : cM} (G : FX X 2 (eV r) cX12_begins RX12 5 D) {F : Nat} (hca : ∀ x ∈ (ca_X12_begins (R' := cM) F), 1 ≤ D ∧ ceS X.1 RX12 (D - 1) x.1 x.2) : ∀ x0 x1 M, f_X12_begins_0 F x0 x1 M = some r → WX X 2 (eV r) 0 [some (.ref x0), some (.int x1)] [] M := by
  intro x0 x1 M h
  exact seg_ok G P_RX12_ok T_X12_begins_ok hca (fun _ h => absurd h List.not_mem_nil) sw_X12_begins_ok krV_ok (kxN_ok (f := eV)) (List.forall_mem_cons.mpr ⟨kf_X12_begins_36 (ok_X12_begins_36 G hca), fun _ h => absurd h List.not_mem_nil⟩) ((e_X12_begins_0 F (f_X12_begins_36 F) x0 x1 M).symm.trans h)
theorem c_X12_begins {q : cL} (hst : q.1.stackTraces = false) {D : Nat} (hD : 1 ≤ D) (F : Nat) (a0 : Nat) (a1 : Int32) (M : cM) (r : cM) (h : f_X12_begins F a0 a1 M = some r) : CTx q yX12_begins (.code yX12_begins cX12_begins 2 none) D [.ref a0, .int a1] M (eV r) ∧ ∃ fs, M[a0]? = some (.inr (10, fs)) := by
  unfold f_X12_begins at h
  split at h
  · next hi => exact ⟨CTx_of (own := RX12) (rk := 5) hst (by decide +kernel) rfl (rfl) (Nat.le_of_ble_eq_true rfl) (fun X hX G => by subst hX; exact ok_X12_begins_0 G (ca_X12_begins_ok hst hD F) a0 a1 M h), isC_of hi⟩
  · cases h
def n_X12_begins {R' : Type} (f : Nat → Int32 → cM → Option (cM)) : cFn R' := fun as M κ κx => match as with
  | [.ref a0, .int a1] => (f a0 a1 M).bind fun p => κ none p
  | _ => none
theorem w_X12_begins : ∀ w ∈ [Cond.instanceMethod yX12_begins, .selects yX12_begins.cls yX12_begins yX12_begins, .initialized yX12_begins.cls, .code yX12_begins cX12_begins 2 none], w ∈ lw_good := List.forall_mem_cons.mpr ⟨lw_good_of (tb_ok 1353 (by decide +kernel)) rfl, List.forall_mem_cons.mpr ⟨lw_good_of (ts_ok 30 (by decide +kernel)) rfl, List.forall_mem_cons.mpr ⟨lw_good_of (tb_ok 11 (by decide +kernel)) rfl, List.forall_mem_cons.mpr ⟨lw_good_of (tb_ok 1354 (by decide +kernel)) rfl, fun _ h => absurd h List.not_mem_nil⟩⟩⟩⟩
theorem n_X12_begins_ok {R' : Type} {q : cL} {own : String} {d k : Nat} {f : Nat → Int32 → cM → Option (cM)} (hl : Cond.methodLink own k yX12_begins ∈ lw_good) (hf : ∀ a0 a1 M r, f a0 a1 M = some r → CTx q yX12_begins (.code yX12_begins cX12_begins 2 none) d [.ref a0, .int a1] M (eV r) ∧ ∃ fs, M[a0]? = some (.inr (10, fs))) : ceS q own d (3 * k + 1) (n_X12_begins (R' := R') f) := by
  intro as M κ κx r h
  unfold n_X12_begins at h
  split at h
  · obtain ⟨p, h1, h2⟩ := Option.bind_eq_some_iff.mp h
    obtain ⟨hc, fs, ha⟩ := hf _ _ _ _ h1
    exact ⟨eV p, fun _ => h2, fun hne => absurd rfl hne, Or.inr (Or.inl ⟨yX12_begins, cX12_begins, 2, none, k, 1, _, _, 10, TX12, 76, fs, rfl, rfl, hc, ha, rfl, List.forall_mem_cons.mpr ⟨hl, w_X12_begins⟩, ⟨rfl, by decide +kernel, by decide +kernel, by decide +kernel⟩, rfl, by decide⟩)⟩
  · cases h
-- PatchbayScriptModel.runsOn(II)Z
def T_X12_runsOn : List cRow := [(0, .aload_n 0, 1, 0), (1, .iload_n 2, 2, 0), (2, .invokevirtual 284, 5, 0), (5, .aload_n 0, 6, 0), (6, .iconst 2, 7, 0), (7, .iload_n 1, 8, 0), (8, .imul, 9, 0), (9, .aload_n 0, 10, 0), (10, .getfield 77, 13, 0), (13, .iload_n 1, 14, 0), (14, .iaload, 15, 0), (15, .invokevirtual 263, 18, 0), (18, .istore_n 3, 19, 0), (19, .iload_n 3, 20, 0), (20, .ifCond .eq 35, 23, 55), (23, .aload_n 0, 24, 0), (24, .getfield 22, 27, 0), (27, .bipush 40, 29, 0), (29, .iload_n 2, 30, 0), (30, .imul, 31, 0), (31, .aload_n 0, 32, 0), (32, .getfield 19, 35, 0), (35, .iload_n 2, 36, 0), (36, .iaload, 37, 0), (37, .iadd, 38, 0), (38, .aload_n 0, 39, 0), (39, .getfield 272, 42, 0), (42, .iconst 1, 43, 0), (43, .isub, 44, 0), (44, .iastore, 45, 0), (45, .aload_n 0, 46, 0), (46, .getfield 19, 49, 0), (49, .iload_n 2, 50, 0), (50, .dup2, 51, 0), (51, .iaload, 52, 0), (52, .iconst 1, 53, 0), (53, .iadd, 54, 0), (54, .iastore, 55, 0), (55, .iload_n 3, 56, 0), (56, .ireturn, 57, 0)]
theorem T_X12_runsOn_ok : T_X12_runsOn.all (rowB cX12_runsOn) = true := by decide +kernel
def th_X12_runsOn : List (Nat × Nat) := []
def sw_X12_runsOn : List (Nat × (List (Int32 × Nat) × Nat)) := []
theorem sw_X12_runsOn_ok : ∀ q ∈ sw_X12_runsOn, swS cX12_runsOn q := fun _ h => absurd h List.not_mem_nil
def na_X12_runsOn : List (Nat × Nat) := [(853, 2), (790, 3)]
def ca_X12_runsOn {R' : Type} (F : Nat) : List (Nat × cFn R') := [(853, n_X12_laysLine (f_X12_laysLine F)), (790, n_X12_makesBy (f_X12_makesBy F))]
theorem ca_X12_runsOn_ok {R' : Type} {q : cL} (hst : q.1.stackTraces = false) {D : Nat} (hD : 6 ≤ D) (F : Nat) : ∀ x ∈ (ca_X12_runsOn (R' := R') F), 1 ≤ D ∧ ceS q RX12 (D - 1) x.1 x.2 := List.forall_mem_cons.mpr ⟨⟨by omega, n_X12_laysLine_ok (k := 284) (lw_good_of (tb_ok 1363 (by decide +kernel)) rfl) (fun a0 a1 M r h => c_X12_laysLine hst (by omega) F a0 a1 M r h)⟩, List.forall_mem_cons.mpr ⟨⟨by omega, n_X12_makesBy_ok (k := 263) (lw_good_of (tb_ok 1378 (by decide +kernel)) rfl) (fun a0 a1 a2 M r h => c_X12_makesBy hst (by omega) F a0 a1 a2 M r h)⟩, fun _ h => absurd h List.not_mem_nil⟩⟩
set_option maxRecDepth 20000 in
theorem e_X12_runsOn_0 (F : Nat) (x0 : Nat) (x1 : Int32) (x2 : Int32) (M : cM) : b_X12_runsOn_0 F x0 x1 x2 M = run T_X12_runsOn P_RX12 false 1 (naL na_X12_runsOn) (caL (ca_X12_runsOn F)) (lkN th_X12_runsOn) (lkN sw_X12_runsOn) krI kxN (spL []) (KL []) 43 0 [some (.ref x0), some (.int x1), some (.int x2), none] [] M := rfl
theorem ok_X12_runsOn_0 {X : cCtx} {D : Nat} {r : Int32 × cM} (G : FX X 4 (eI r) cX12_runsOn RX12 1 D) {F : Nat} (hca : ∀ x ∈ (ca_X12_runsOn (R' := Int32 × cM) F), 1 ≤ D ∧ ceS X.1 RX12 (D - 1) x.1 x.2) : ∀ x0 x1 x2 M, f_X12_runsOn_0 F x0 x1 x2 M = some r → WX X 4 (eI r) 0 [some (.ref x0), some (.int x1), some (.int x2), none] [] M := by
  intro x0 x1 x2 M h
  exact seg_ok G P_RX12_ok T_X12_runsOn_ok hca (fun _ h => absurd h List.not_mem_nil) sw_X12_runsOn_ok krI_ok (kxN_ok (f := eI)) (fun _ h => absurd h List.not_mem_nil) ((e_X12_runsOn_0 F x0 x1 x2 M).symm.trans h)
theorem c_X12_runsOn {q : cL} (hst : q.1.stackTraces = false) {D : Nat} (hD : 6 ≤ D) (F : Nat) (a0 : Nat) (a1 : Int32) (a2 : Int32) (M : cM) (r : Int32 × cM) (h : f_X12_runsOn F a0 a1 a2 M = some r) : CTx q yX12_runsOn (.code yX12_runsOn cX12_runsOn 4 (some .boolean)) D [.ref a0, .int a1, .int a2] M (eI r) ∧ ∃ fs, M[a0]? = some (.inr (10, fs)) := by
  unfold f_X12_runsOn at h
  split at h
  · next hi => exact ⟨CTx_of (own := RX12) (rk := 1) hst (by decide +kernel) rfl (rfl) (Nat.le_of_ble_eq_true rfl) (fun X hX G => by subst hX; exact ok_X12_runsOn_0 G (ca_X12_runsOn_ok hst hD F) a0 a1 a2 M h), isC_of hi⟩
  · cases h
def n_X12_runsOn {R' : Type} (f : Nat → Int32 → Int32 → cM → Option (Int32 × cM)) : cFn R' := fun as M κ κx => match as with
  | [.ref a0, .int a1, .int a2] => (f a0 a1 a2 M).bind fun p => κ (some (.int p.1)) p.2
  | _ => none
theorem w_X12_runsOn : ∀ w ∈ [Cond.instanceMethod yX12_runsOn, .selects yX12_runsOn.cls yX12_runsOn yX12_runsOn, .initialized yX12_runsOn.cls, .code yX12_runsOn cX12_runsOn 4 (some .boolean)], w ∈ lw_good := List.forall_mem_cons.mpr ⟨lw_good_of (tb_ok 1361 (by decide +kernel)) rfl, List.forall_mem_cons.mpr ⟨lw_good_of (ts_ok 32 (by decide +kernel)) rfl, List.forall_mem_cons.mpr ⟨lw_good_of (tb_ok 11 (by decide +kernel)) rfl, List.forall_mem_cons.mpr ⟨lw_good_of (tb_ok 1362 (by decide +kernel)) rfl, fun _ h => absurd h List.not_mem_nil⟩⟩⟩⟩
theorem n_X12_runsOn_ok {R' : Type} {q : cL} {own : String} {d k : Nat} {f : Nat → Int32 → Int32 → cM → Option (Int32 × cM)} (hl : Cond.methodLink own k yX12_runsOn ∈ lw_good) (hf : ∀ a0 a1 a2 M r, f a0 a1 a2 M = some r → CTx q yX12_runsOn (.code yX12_runsOn cX12_runsOn 4 (some .boolean)) d [.ref a0, .int a1, .int a2] M (eI r) ∧ ∃ fs, M[a0]? = some (.inr (10, fs))) : ceS q own d (3 * k + 1) (n_X12_runsOn (R' := R') f) := by
  intro as M κ κx r h
  unfold n_X12_runsOn at h
  split at h
  · obtain ⟨p, h1, h2⟩ := Option.bind_eq_some_iff.mp h
    obtain ⟨hc, fs, ha⟩ := hf _ _ _ _ _ h1
    exact ⟨eI p, fun _ => h2, fun hne => absurd rfl hne, Or.inr (Or.inl ⟨yX12_runsOn, cX12_runsOn, 4, (some .boolean), k, 2, _, _, 10, TX12, 76, fs, rfl, rfl, hc, ha, rfl, List.forall_mem_cons.mpr ⟨hl, w_X12_runsOn⟩, ⟨rfl, by decide +kernel, by decide +kernel, by decide +kernel⟩, rfl, by decide⟩)⟩
  · cases h
-- PatchbayScriptModel.line()I
def T_X12_line : List cRow := [(0, .iconst 0, 1, 0), (1, .istore_n 1, 2, 0), (2, .iconst 0, 3, 0), (3, .istore_n 2, 4, 0), (4, .iload_n 2, 5, 0), (5, .iconst 3, 6, 0), (6, .if_icmp .ge 26, 9, 32), (9, .iload_n 1, 10, 0), (10, .aload_n 0, 11, 0), (11, .getfield 80, 14, 0), (14, .iload_n 2, 15, 0), (15, .baload, 16, 0), (16, .ifCond .eq 7, 19, 23), (19, .iconst 1, 20, 0), (20, .goto 4, 23, 24), (23, .iconst 0, 24, 0), (24, .iadd, 25, 0), (25, .istore_n 1, 26, 0), (26, .iinc 2 1, 29, 0), (29, .goto (-25), 32, 4), (32, .aload_n 0, 33, 0), (33, .aload_n 0, 34, 0), (34, .getfield 204, 37, 0), (37, .bipush 8, 39, 0), (39, .if_icmp .eq 14, 42, 53), (42, .aload_n 0, 43, 0), (43, .getfield 272, 46, 0), (46, .iload_n 1, 47, 0), (47, .iadd, 48, 0), (48, .bipush 30, 50, 0), (50, .if_icmp .le 7, 53, 57), (53, .iconst 1, 54, 0), (54, .goto 4, 57, 58), (57, .iconst 0, 58, 0), (58, .putfield 196, 61, 0), (61, .aload_n 0, 62, 0), (62, .getfield 196, 65, 0), (65, .ifCond .le 5, 68, 70), (68, .iconst 0, 69, 0), (69, .ireturn, 70, 0), (70, .aload_n 0, 71, 0), (71, .getfield 204, 74, 0), (74, .istore_n 2, 75, 0), (75, .iconst 0, 76, 0), (76, .istore_n 3, 77, 0), (77, .iload_n 3, 78, 0), (78, .aload_n 0, 79, 0), (79, .getfield 269, 82, 0), (82, .if_icmp .ge 26, 85, 108), (85, .aload_n 0, 86, 0), (86, .getfield 13, 89, 0), (89, .bipush 20, 91, 0), (91, .iload_n 2, 92, 0), (92, .imul, 93, 0), (93, .iload_n 3, 94, 0), (94, .iadd, 95, 0), (95, .aload_n 0, 96, 0), (96, .getfield 7, 99, 0), (99, .iload_n 3, 100, 0), (100, .iaload, 101, 0), (101, .iastore, 102, 0), (102, .iinc 3 1, 105, 0), (105, .goto (-28), 108, 77), (108, .aload_n 0, 109, 0), (109, .getfield 16, 112, 0), (112, .iload_n 2, 113, 0), (113, .aload_n 0, 114, 0), (114, .getfield 269, 117, 0), (117, .iastore, 118, 0), (118, .aload_n 0, 119, 0), (119, .iconst 0, 120, 0), (120, .putfield 269, 123, 0), (123, .aload_n 0, 124, 0), (124, .dup, 125, 0), (125, .getfield 204, 128, 0), (128, .iconst 1, 129, 0), (129, .iadd, 130, 0), (130, .putfield 204, 133, 0), (133, .iconst 0, 134, 0), (134, .istore_n 3, 135, 0), (135, .iload_n 3, 136, 0), (136, .iconst 3, 137, 0), (137, .if_icmp .ge 30, 140, 167), (140, .aload_n 0, 141, 0), (141, .getfield 80, 144, 0), (144, .iload_n 3, 145, 0), (145, .baload, 146, 0), (146, .ifCond .eq 15, 149, 161), (149, .aload_n 0, 150, 0), (150, .iload_n 3, 151, 0), (151, .invokevirtual 275, 154, 0), (154, .aload_n 0, 155, 0), (155, .iload_n 3, 156, 0), (156, .iload_n 2, 157, 0), (157, .invokevirtual 278, 160, 0), (160, .pop, 161, 0), (161, .iinc 3 1, 164, 0), (164, .goto (-29), 167, 135), (167, .iload_n 2, 168, 0), (168, .ireturn, 169, 0)]
theorem T_X12_line_ok : T_X12_line.all (rowB cX12_line) = true := by decide +kernel
def th_X12_line : List (Nat × Nat) := []
def sw_X12_line : List (Nat × (List (Int32 × Nat) × Nat)) := []
theorem sw_X12_line_ok : ∀ q ∈ sw_X12_line, swS cX12_line q := fun _ h => absurd h List.not_mem_nil
def na_X12_line : List (Nat × Nat) := [(826, 2), (835, 3)]
def ca_X12_line {R' : Type} (F : Nat) : List (Nat × cFn R') := [(826, n_X12_begins (f_X12_begins F)), (835, n_X12_runsOn (f_X12_runsOn F))]
theorem ca_X12_line_ok {R' : Type} {q : cL} (hst : q.1.stackTraces = false) {D : Nat} (hD : 7 ≤ D) (F : Nat) : ∀ x ∈ (ca_X12_line (R' := R') F), 1 ≤ D ∧ ceS q RX12 (D - 1) x.1 x.2 := List.forall_mem_cons.mpr ⟨⟨by omega, n_X12_begins_ok (k := 275) (lw_good_of (tb_ok 1351 (by decide +kernel)) rfl) (fun a0 a1 M r h => c_X12_begins hst (by omega) F a0 a1 M r h)⟩, List.forall_mem_cons.mpr ⟨⟨by omega, n_X12_runsOn_ok (k := 278) (lw_good_of (tb_ok 1359 (by decide +kernel)) rfl) (fun a0 a1 a2 M r h => c_X12_runsOn hst (by omega) F a0 a1 a2 M r h)⟩, fun _ h => absurd h List.not_mem_nil⟩⟩
def kd_X12_line_4 (g : Nat → Int32 → Int32 → cM → Option (Int32 × cM)) : cKf (Int32 × cM) := fun vs st M => (lR vs 0).bind fun x0 => (lI vs 1).bind fun x1 => (lI vs 2).bind fun x2 => match st with
  | [] => g x0 x1 x2 M
  | _ => none
theorem kf_X12_line_4 {X : cCtx} {o : cO} {r : Int32 × cM} {g : Nat → Int32 → Int32 → cM → Option (Int32 × cM)} (hg : ∀ x0 x1 x2 M, g x0 x1 x2 M = some r → WX X 4 o 4 [some (.ref x0), some (.int x1), some (.int x2), none] [] M) : ∀ vs st M, kd_X12_line_4 g vs st M = some r → WX X 4 o 4 vs st M := by
  intro vs st M h
  unfold kd_X12_line_4 at h
  obtain ⟨x0, h0, h⟩ := Option.bind_eq_some_iff.mp h
  obtain ⟨x1, h1, h⟩ := Option.bind_eq_some_iff.mp h
  obtain ⟨x2, h2, h⟩ := Option.bind_eq_some_iff.mp h
  split at h
  · exact WX_weak (hg _ _ _ _ h) rfl ⟨lR_of h0, lI_of h1, lI_of h2, trivial⟩
  · cases h
def kd_X12_line_58 (g : Nat → Nat → Int32 → cM → Option (Int32 × cM)) : cKf (Int32 × cM) := fun vs st M => (lR vs 0).bind fun x0 => match st with
  | [.int s1, .ref s0] => g x0 s0 s1 M
  | _ => none
theorem kf_X12_line_58 {X : cCtx} {o : cO} {r : Int32 × cM} {g : Nat → Nat → Int32 → cM → Option (Int32 × cM)} (hg : ∀ x0 s0 s1 M, g x0 s0 s1 M = some r → WX X 4 o 58 [some (.ref x0), none, none, none] [.int s1, .ref s0] M) : ∀ vs st M, kd_X12_line_58 g vs st M = some r → WX X 4 o 58 vs st M := by
  intro vs st M h
  unfold kd_X12_line_58 at h
  obtain ⟨x0, h0, h⟩ := Option.bind_eq_some_iff.mp h
  split at h
  · exact WX_weak (hg _ _ _ _ h) rfl ⟨lR_of h0, trivial⟩
  · cases h
def kd_X12_line_77 (g : Nat → Int32 → Int32 → cM → Option (Int32 × cM)) : cKf (Int32 × cM) := fun vs st M => (lR vs 0).bind fun x0 => (lI vs 2).bind fun x2 => (lI vs 3).bind fun x3 => match st with
  | [] => g x0 x2 x3 M
  | _ => none
theorem kf_X12_line_77 {X : cCtx} {o : cO} {r : Int32 × cM} {g : Nat → Int32 → Int32 → cM → Option (Int32 × cM)} (hg : ∀ x0 x2 x3 M, g x0 x2 x3 M = some r → WX X 4 o 77 [some (.ref x0), none, some (.int x2), some (.int x3)] [] M) : ∀ vs st M, kd_X12_line_77 g vs st M = some r → WX X 4 o 77 vs st M := by
  intro vs st M h
  unfold kd_X12_line_77 at h
  obtain ⟨x0, h0, h⟩ := Option.bind_eq_some_iff.mp h
  obtain ⟨x2, h2, h⟩ := Option.bind_eq_some_iff.mp h
  obtain ⟨x3, h3, h⟩ := Option.bind_eq_some_iff.mp h
  split at h
  · exact WX_weak (hg _ _ _ _ h) rfl ⟨lR_of h0, lI_of h2, lI_of h3, trivial⟩
  · cases h
def kd_X12_line_135 (g : Nat → Int32 → Int32 → cM → Option (Int32 × cM)) : cKf (Int32 × cM) := fun vs st M => (lR vs 0).bind fun x0 => (lI vs 2).bind fun x2 => (lI vs 3).bind fun x3 => match st with
  | [] => g x0 x2 x3 M
  | _ => none
theorem kf_X12_line_135 {X : cCtx} {o : cO} {r : Int32 × cM} {g : Nat → Int32 → Int32 → cM → Option (Int32 × cM)} (hg : ∀ x0 x2 x3 M, g x0 x2 x3 M = some r → WX X 4 o 135 [some (.ref x0), none, some (.int x2), some (.int x3)] [] M) : ∀ vs st M, kd_X12_line_135 g vs st M = some r → WX X 4 o 135 vs st M := by
  intro vs st M h
  unfold kd_X12_line_135 at h
  obtain ⟨x0, h0, h⟩ := Option.bind_eq_some_iff.mp h
  obtain ⟨x2, h2, h⟩ := Option.bind_eq_some_iff.mp h
  obtain ⟨x3, h3, h⟩ := Option.bind_eq_some_iff.mp h
  split at h
  · exact WX_weak (hg _ _ _ _ h) rfl ⟨lR_of h0, lI_of h2, lI_of h3, trivial⟩
  · cases h
set_option maxRecDepth 20000 in
theorem e_X12_line_135 (F : Nat) (t135 : Nat → Int32 → Int32 → cM → Option (Int32 × cM)) (x0 : Nat) (x2 : Int32) (x3 : Int32) (M : cM) : b_X12_line_135 F t135 x0 x2 x3 M = run T_X12_line P_RX12 false 0 (naL na_X12_line) (caL (ca_X12_line F)) (lkN th_X12_line) (lkN sw_X12_line) krI kxN (spL [135]) (KL [(135, kd_X12_line_135 t135)]) 103 135 [some (.ref x0), none, some (.int x2), some (.int x3)] [] M := rfl
theorem ok_X12_line_135 {X : cCtx} {D : Nat} {r : Int32 × cM} (G : FX X 4 (eI r) cX12_line RX12 0 D) {F : Nat} (hca : ∀ x ∈ (ca_X12_line (R' := Int32 × cM) F), 1 ≤ D ∧ ceS X.1 RX12 (D - 1) x.1 x.2) (n : Nat) : ∀ x0 x2 x3 M, f_X12_line_135 F n x0 x2 x3 M = some r → WX X 4 (eI r) 135 [some (.ref x0), none, some (.int x2), some (.int x3)] [] M := by
  induction n with
  | zero => intro x0 x2 x3 M h; cases h
  | succ n ih =>
    intro x0 x2 x3 M h
    exact seg_ok G P_RX12_ok T_X12_line_ok hca (fun _ h => absurd h List.not_mem_nil) sw_X12_line_ok krI_ok (kxN_ok (f := eI)) (List.forall_mem_cons.mpr ⟨kf_X12_line_135 (ih), fun _ h => absurd h List.not_mem_nil⟩) ((e_X12_line_135 F (f_X12_line_135 F n) x0 x2 x3 M).symm.trans h)
set_option maxRecDepth 20000 in
theorem e_X12_line_77 (F : Nat) (t77 : Nat → Int32 → Int32 → cM → Option (Int32 × cM)) (t135 : Nat → Int32 → Int32 → cM → Option (Int32 × cM)) (x0 : Nat) (x2 : Int32) (x3 : Int32) (M : cM) : b_X12_line_77 F t77 t135 x0 x2 x3 M = run T_X12_line P_RX12 false 0 (naL na_X12_line) (caL (ca_X12_line F)) (lkN th_X12_line) (lkN sw_X12_line) krI kxN (spL [77, 135]) (KL [(77, kd_X12_line_77 t77), (135, kd_X12_line_135 t135)]) 103 77 [some (.ref x0), none, some (.int x2), some (.int x3)] [] M := rfl
theorem ok_X12_line_77 {X : cCtx} {D : Nat} {r : Int32 × cM} (G : FX X 4 (eI r) cX12_line RX12 0 D) {F : Nat} (hca : ∀ x ∈ (ca_X12_line (R' := Int32 × cM) F), 1 ≤ D ∧ ceS X.1 RX12 (D - 1) x.1 x.2) (n : Nat) : ∀ x0 x2 x3 M, f_X12_line_77 F n x0 x2 x3 M = some r → WX X 4 (eI r) 77 [some (.ref x0), none, some (.int x2), some (.int x3)] [] M := by
  induction n with
  | zero => intro x0 x2 x3 M h; cases h
  | succ n ih =>
    intro x0 x2 x3 M h
    exact seg_ok G P_RX12_ok T_X12_line_ok hca (fun _ h => absurd h List.not_mem_nil) sw_X12_line_ok krI_ok (kxN_ok (f := eI)) (List.forall_mem_cons.mpr ⟨kf_X12_line_77 (ih), List.forall_mem_cons.mpr ⟨kf_X12_line_135 (ok_X12_line_135 G hca F), fun _ h => absurd h List.not_mem_nil⟩⟩) ((e_X12_line_77 F (f_X12_line_77 F n) (f_X12_line_135 F F) x0 x2 x3 M).symm.trans h)
set_option maxRecDepth 20000 in
theorem e_X12_line_58 (F : Nat) (t77 : Nat → Int32 → Int32 → cM → Option (Int32 × cM)) (x0 : Nat) (s0 : Nat) (s1 : Int32) (M : cM) : b_X12_line_58 F t77 x0 s0 s1 M = run T_X12_line P_RX12 false 0 (naL na_X12_line) (caL (ca_X12_line F)) (lkN th_X12_line) (lkN sw_X12_line) krI kxN (spL [77]) (KL [(77, kd_X12_line_77 t77)]) 103 58 [some (.ref x0), none, none, none] [.int s1, .ref s0] M := rfl
theorem ok_X12_line_58 {X : cCtx} {D : Nat} {r : Int32 × cM} (G : FX X 4 (eI r) cX12_line RX12 0 D) {F : Nat} (hca : ∀ x ∈ (ca_X12_line (R' := Int32 × cM) F), 1 ≤ D ∧ ceS X.1 RX12 (D - 1) x.1 x.2) : ∀ x0 s0 s1 M, f_X12_line_58 F x0 s0 s1 M = some r → WX X 4 (eI r) 58 [some (.ref x0), none, none, none] [.int s1, .ref s0] M := by
  intro x0 s0 s1 M h
  exact seg_ok G P_RX12_ok T_X12_line_ok hca (fun _ h => absurd h List.not_mem_nil) sw_X12_line_ok krI_ok (kxN_ok (f := eI)) (List.forall_mem_cons.mpr ⟨kf_X12_line_77 (ok_X12_line_77 G hca F), fun _ h => absurd h List.not_mem_nil⟩) ((e_X12_line_58 F (f_X12_line_77 F F) x0 s0 s1 M).symm.trans h)
set_option maxRecDepth 20000 in
theorem e_X12_line_4 (F : Nat) (t4 : Nat → Int32 → Int32 → cM → Option (Int32 × cM)) (t58 : Nat → Nat → Int32 → cM → Option (Int32 × cM)) (x0 : Nat) (x1 : Int32) (x2 : Int32) (M : cM) : b_X12_line_4 F t4 t58 x0 x1 x2 M = run T_X12_line P_RX12 false 0 (naL na_X12_line) (caL (ca_X12_line F)) (lkN th_X12_line) (lkN sw_X12_line) krI kxN (spL [4, 58]) (KL [(4, kd_X12_line_4 t4), (58, kd_X12_line_58 t58)]) 103 4 [some (.ref x0), some (.int x1), some (.int x2), none] [] M := rfl
theorem ok_X12_line_4 {X : cCtx} {D : Nat} {r : Int32 × cM} (G : FX X 4 (eI r) cX12_line RX12 0 D) {F : Nat} (hca : ∀ x ∈ (ca_X12_line (R' := Int32 × cM) F), 1 ≤ D ∧ ceS X.1 RX12 (D - 1) x.1 x.2) (n : Nat) : ∀ x0 x1 x2 M, f_X12_line_4 F n x0 x1 x2 M = some r → WX X 4 (eI r) 4 [some (.ref x0), some (.int x1), some (.int x2), none] [] M := by
  induction n with
  | zero => intro x0 x1 x2 M h; cases h
  | succ n ih =>
    intro x0 x1 x2 M h
    exact seg_ok G P_RX12_ok T_X12_line_ok hca (fun _ h => absurd h List.not_mem_nil) sw_X12_line_ok krI_ok (kxN_ok (f := eI)) (List.forall_mem_cons.mpr ⟨kf_X12_line_4 (ih), List.forall_mem_cons.mpr ⟨kf_X12_line_58 (ok_X12_line_58 G hca), fun _ h => absurd h List.not_mem_nil⟩⟩) ((e_X12_line_4 F (f_X12_line_4 F n) (f_X12_line_58 F) x0 x1 x2 M).symm.trans h)
set_option maxRecDepth 20000 in
theorem e_X12_line_0 (F : Nat) (t4 : Nat → Int32 → Int32 → cM → Option (Int32 × cM)) (x0 : Nat) (M : cM) : b_X12_line_0 F t4 x0 M = run T_X12_line P_RX12 false 0 (naL na_X12_line) (caL (ca_X12_line F)) (lkN th_X12_line) (lkN sw_X12_line) krI kxN (spL [4]) (KL [(4, kd_X12_line_4 t4)]) 103 0 [some (.ref x0), none, none, none] [] M := rfl
theorem ok_X12_line_0 {X : cCtx} {D : Nat} {r : Int32 × cM} (G : FX X 4 (eI r) cX12_line RX12 0 D) {F : Nat} (hca : ∀ x ∈ (ca_X12_line (R' := Int32 × cM) F), 1 ≤ D ∧ ceS X.1 RX12 (D - 1) x.1 x.2) : ∀ x0 M, f_X12_line_0 F x0 M = some r → WX X 4 (eI r) 0 [some (.ref x0), none, none, none] [] M := by
  intro x0 M h
  exact seg_ok G P_RX12_ok T_X12_line_ok hca (fun _ h => absurd h List.not_mem_nil) sw_X12_line_ok krI_ok (kxN_ok (f := eI)) (List.forall_mem_cons.mpr ⟨kf_X12_line_4 (ok_X12_line_4 G hca F), fun _ h => absurd h List.not_mem_nil⟩) ((e_X12_line_0 F (f_X12_line_4 F F) x0 M).symm.trans h)
theorem c_X12_line {q : cL} (hst : q.1.stackTraces = false) {D : Nat} (hD : 7 ≤ D) (F : Nat) (a0 : Nat) (M : cM) (r : Int32 × cM) (h : f_X12_line F a0 M = some r) : CTx q yX12_line (.code yX12_line cX12_line 4 (some .int)) D [.ref a0] M (eI r) ∧ ∃ fs, M[a0]? = some (.inr (10, fs)) := by
  unfold f_X12_line at h
  split at h
  · next hi => exact ⟨CTx_of (own := RX12) (rk := 0) hst (by decide +kernel) rfl (rfl) (Nat.le_of_ble_eq_true rfl) (fun X hX G => by subst hX; exact ok_X12_line_0 G (ca_X12_line_ok hst hD F) a0 M h), isC_of hi⟩
  · cases h
-- PatchbayScriptModel.length(I)I
def T_X12_length : List cRow := [(0, .aload_n 0, 1, 0), (1, .aload_n 0, 2, 0), (2, .iload_n 1, 3, 0), (3, .invokevirtual 281, 6, 0), (6, .ifCond .eq 7, 9, 13), (9, .iconst 0, 10, 0), (10, .goto 4, 13, 14), (13, .iconst 1, 14, 0), (14, .putfield 196, 17, 0), (17, .aload_n 0, 18, 0), (18, .getfield 196, 21, 0), (21, .ifCond .le 5, 24, 26), (24, .iconst 0, 25, 0), (25, .ireturn, 26, 0), (26, .aload_n 0, 27, 0), (27, .iload_n 1, 28, 0), (28, .invokevirtual 284, 31, 0), (31, .aload_n 0, 32, 0), (32, .getfield 214, 35, 0), (35, .ireturn, 36, 0)]
theorem T_X12_length_ok : T_X12_length.all (rowB cX12_length) = true := by decide +kernel
def th_X12_length : List (Nat × Nat) := []
def sw_X12_length : List (Nat × (List (Int32 × Nat) × Nat)) := []
theorem sw_X12_length_ok : ∀ q ∈ sw_X12_length, swS cX12_length q := fun _ h => absurd h List.not_mem_nil
def na_X12_length : List (Nat × Nat) := [(844, 2), (853, 2)]
def ca_X12_length {R' : Type} (F : Nat) : List (Nat × cFn R') := [(844, n_X12_isLine (f_X12_isLine F)), (853, n_X12_laysLine (f_X12_laysLine F))]
theorem ca_X12_length_ok {R' : Type} {q : cL} (hst : q.1.stackTraces = false) {D : Nat} (hD : 6 ≤ D) (F : Nat) : ∀ x ∈ (ca_X12_length (R' := R') F), 1 ≤ D ∧ ceS q RX12 (D - 1) x.1 x.2 := List.forall_mem_cons.mpr ⟨⟨by omega, n_X12_isLine_ok (k := 281) (lw_good_of (tb_ok 1419 (by decide +kernel)) rfl) (fun a0 a1 M r h => c_X12_isLine hst (by omega) F a0 a1 M r h)⟩, List.forall_mem_cons.mpr ⟨⟨by omega, n_X12_laysLine_ok (k := 284) (lw_good_of (tb_ok 1363 (by decide +kernel)) rfl) (fun a0 a1 M r h => c_X12_laysLine hst (by omega) F a0 a1 M r h)⟩, fun _ h => absurd h List.not_mem_nil⟩⟩
def kd_X12_length_14 (g : Nat → Int32 → Nat → Int32 → cM → Option (Int32 × cM)) : cKf (Int32 × cM) := fun vs st M => (lR vs 0).bind fun x0 => (lI vs 1).bind fun x1 => match st with
  | [.int s1, .ref s0] => g x0 x1 s0 s1 M
  | _ => none
theorem kf_X12_length_14 {X : cCtx} {o : cO} {r : Int32 × cM} {g : Nat → Int32 → Nat → Int32 → cM → Option (Int32 × cM)} (hg : ∀ x0 x1 s0 s1 M, g x0 x1 s0 s1 M = some r → WX X 2 o 14 [some (.ref x0), some (.int x1)] [.int s1, .ref s0] M) : ∀ vs st M, kd_X12_length_14 g vs st M = some r → WX X 2 o 14 vs st M := by
  intro vs st M h
  unfold kd_X12_length_14 at h
  obtain ⟨x0, h0, h⟩ := Option.bind_eq_some_iff.mp h
  obtain ⟨x1, h1, h⟩ := Option.bind_eq_some_iff.mp h
  split at h
  · exact WX_weak (hg _ _ _ _ _ h) rfl ⟨lR_of h0, lI_of h1, trivial⟩
  · cases h
set_option maxRecDepth 20000 in
theorem e_X12_length_14 (F : Nat) (x0 : Nat) (x1 : Int32) (s0 : Nat) (s1 : Int32) (M : cM) : b_X12_length_14 F x0 x1 s0 s1 M = run T_X12_length P_RX12 false 0 (naL na_X12_length) (caL (ca_X12_length F)) (lkN th_X12_length) (lkN sw_X12_length) krI kxN (spL []) (KL []) 23 14 [some (.ref x0), some (.int x1)] [.int s1, .ref s0] M := rfl
theorem ok_X12_length_14 {X : cCtx} {D : Nat} {r : Int32 × cM} (G : FX X 2 (eI r) cX12_length RX12 0 D) {F : Nat} (hca : ∀ x ∈ (ca_X12_length (R' := Int32 × cM) F), 1 ≤ D ∧ ceS X.1 RX12 (D - 1) x.1 x.2) : ∀ x0 x1 s0 s1 M, f_X12_length_14 F x0 x1 s0 s1 M = some r → WX X 2 (eI r) 14 [some (.ref x0), some (.int x1)] [.int s1, .ref s0] M := by
  intro x0 x1 s0 s1 M h
  exact seg_ok G P_RX12_ok T_X12_length_ok hca (fun _ h => absurd h List.not_mem_nil) sw_X12_length_ok krI_ok (kxN_ok (f := eI)) (fun _ h => absurd h List.not_mem_nil) ((e_X12_length_14 F x0 x1 s0 s1 M).symm.trans h)
set_option maxRecDepth 20000 in
theorem e_X12_length_0 (F : Nat) (t14 : Nat → Int32 → Nat → Int32 → cM → Option (Int32 × cM)) (x0 : Nat) (x1 : Int32) (M : cM) : b_X12_length_0 F t14 x0 x1 M = run T_X12_length P_RX12 false 0 (naL na_X12_length) (caL (ca_X12_length F)) (lkN th_X12_length) (lkN sw_X12_length) krI kxN (spL [14]) (KL [(14, kd_X12_length_14 t14)]) 23 0 [some (.ref x0), some (.int x1)] [] M := rfl
theorem ok_X12_length_0 {X : cCtx} {D : Nat} {r : Int32 × cM} (G : FX X 2 (eI r) cX12_length RX12 0 D) {F : Nat} (hca : ∀ x ∈ (ca_X12_length (R' := Int32 × cM) F), 1 ≤ D ∧ ceS X.1 RX12 (D - 1) x.1 x.2) : ∀ x0 x1 M, f_X12_length_0 F x0 x1 M = some r → WX X 2 (eI r) 0 [some (.ref x0), some (.int x1)] [] M := by
  intro x0 x1 M h
  exact seg_ok G P_RX12_ok T_X12_length_ok hca (fun _ h => absurd h List.not_mem_nil) sw_X12_length_ok krI_ok (kxN_ok (f := eI)) (List.forall_mem_cons.mpr ⟨kf_X12_length_14 (ok_X12_length_14 G hca), fun _ h => absurd h List.not_mem_nil⟩) ((e_X12_length_0 F (f_X12_length_14 F) x0 x1 M).symm.trans h)
theorem c_X12_length {q : cL} (hst : q.1.stackTraces = false) {D : Nat} (hD : 6 ≤ D) (F : Nat) (a0 : Nat) (a1 : Int32) (M : cM) (r : Int32 × cM) (h : f_X12_length F a0 a1 M = some r) : CTx q yX12_length (.code yX12_length cX12_length 2 (some .int)) D [.ref a0, .int a1] M (eI r) ∧ ∃ fs, M[a0]? = some (.inr (10, fs)) := by
  unfold f_X12_length at h
  split at h
  · next hi => exact ⟨CTx_of (own := RX12) (rk := 0) hst (by decide +kernel) rfl (rfl) (Nat.le_of_ble_eq_true rfl) (fun X hX G => by subst hX; exact ok_X12_length_0 G (ca_X12_length_ok hst hD F) a0 a1 M h), isC_of hi⟩
  · cases h
-- PatchbayScriptModel.signAt(II)C
def T_X12_signAt : List cRow := [(0, .aload_n 0, 1, 0), (1, .aload_n 0, 2, 0), (2, .iload_n 1, 3, 0), (3, .invokevirtual 281, 6, 0), (6, .ifCond .eq 11, 9, 17), (9, .iload_n 2, 10, 0), (10, .ifCond .lt 7, 13, 17), (13, .iconst 0, 14, 0), (14, .goto 4, 17, 18), (17, .iconst 1, 18, 0), (18, .putfield 196, 21, 0), (21, .aload_n 0, 22, 0), (22, .getfield 196, 25, 0), (25, .ifCond .ne 25, 28, 50), (28, .aload_n 0, 29, 0), (29, .iload_n 1, 30, 0), (30, .invokevirtual 284, 33, 0), (33, .aload_n 0, 34, 0), (34, .iload_n 2, 35, 0), (35, .aload_n 0, 36, 0), (36, .getfield 214, 39, 0), (39, .if_icmp .ge 7, 42, 46), (42, .iconst 0, 43, 0), (43, .goto 4, 46, 47), (46, .iconst 1, 47, 0), (47, .putfield 196, 50, 0), (50, .aload_n 0, 51, 0), (51, .getfield 196, 54, 0), (54, .ifCond .le 8, 57, 62), (57, .bipush 32, 59, 0), (59, .goto 10, 62, 69), (62, .aload_n 0, 63, 0), (63, .getfield 113, 66, 0), (66, .iload_n 2, 67, 0), (67, .iaload, 68, 0), (68, .i2c, 69, 0), (69, .ireturn, 70, 0)]
theorem T_X12_signAt_ok : T_X12_signAt.all (rowB cX12_signAt) = true := by decide +kernel
def th_X12_signAt : List (Nat × Nat) := []
def sw_X12_signAt : List (Nat × (List (Int32 × Nat) × Nat)) := []
theorem sw_X12_signAt_ok : ∀ q ∈ sw_X12_signAt, swS cX12_signAt q := fun _ h => absurd h List.not_mem_nil
def na_X12_signAt : List (Nat × Nat) := [(844, 2), (853, 2)]
def ca_X12_signAt {R' : Type} (F : Nat) : List (Nat × cFn R') := [(844, n_X12_isLine (f_X12_isLine F)), (853, n_X12_laysLine (f_X12_laysLine F))]
theorem ca_X12_signAt_ok {R' : Type} {q : cL} (hst : q.1.stackTraces = false) {D : Nat} (hD : 6 ≤ D) (F : Nat) : ∀ x ∈ (ca_X12_signAt (R' := R') F), 1 ≤ D ∧ ceS q RX12 (D - 1) x.1 x.2 := List.forall_mem_cons.mpr ⟨⟨by omega, n_X12_isLine_ok (k := 281) (lw_good_of (tb_ok 1419 (by decide +kernel)) rfl) (fun a0 a1 M r h => c_X12_isLine hst (by omega) F a0 a1 M r h)⟩, List.forall_mem_cons.mpr ⟨⟨by omega, n_X12_laysLine_ok (k := 284) (lw_good_of (tb_ok 1363 (by decide +kernel)) rfl) (fun a0 a1 M r h => c_X12_laysLine hst (by omega) F a0 a1 M r h)⟩, fun _ h => absurd h List.not_mem_nil⟩⟩
def kd_X12_signAt_18 (g : Nat → Int32 → Int32 → Nat → Int32 → cM → Option (Int32 × cM)) : cKf (Int32 × cM) := fun vs st M => (lR vs 0).bind fun x0 => (lI vs 1).bind fun x1 => (lI vs 2).bind fun x2 => match st with
  | [.int s1, .ref s0] => g x0 x1 x2 s0 s1 M
  | _ => none
theorem kf_X12_signAt_18 {X : cCtx} {o : cO} {r : Int32 × cM} {g : Nat → Int32 → Int32 → Nat → Int32 → cM → Option (Int32 × cM)} (hg : ∀ x0 x1 x2 s0 s1 M, g x0 x1 x2 s0 s1 M = some r → WX X 3 o 18 [some (.ref x0), some (.int x1), some (.int x2)] [.int s1, .ref s0] M) : ∀ vs st M, kd_X12_signAt_18 g vs st M = some r → WX X 3 o 18 vs st M := by
  intro vs st M h
  unfold kd_X12_signAt_18 at h
  obtain ⟨x0, h0, h⟩ := Option.bind_eq_some_iff.mp h
  obtain ⟨x1, h1, h⟩ := Option.bind_eq_some_iff.mp h
  obtain ⟨x2, h2, h⟩ := Option.bind_eq_some_iff.mp h
  split at h
  · exact WX_weak (hg _ _ _ _ _ _ h) rfl ⟨lR_of h0, lI_of h1, lI_of h2, trivial⟩
  · cases h
def kd_X12_signAt_50 (g : Nat → Int32 → cM → Option (Int32 × cM)) : cKf (Int32 × cM) := fun vs st M => (lR vs 0).bind fun x0 => (lI vs 2).bind fun x2 => match st with
  | [] => g x0 x2 M
  | _ => none
theorem kf_X12_signAt_50 {X : cCtx} {o : cO} {r : Int32 × cM} {g : Nat → Int32 → cM → Option (Int32 × cM)} (hg : ∀ x0 x2 M, g x0 x2 M = some r → WX X 3 o 50 [some (.ref x0), none, some (.int x2)] [] M) : ∀ vs st M, kd_X12_signAt_50 g vs st M = some r → WX X 3 o 50 vs st M := by
  intro vs st M h
  unfold kd_X12_signAt_50 at h
  obtain ⟨x0, h0, h⟩ := Option.bind_eq_some_iff.mp h
  obtain ⟨x2, h2, h⟩ := Option.bind_eq_some_iff.mp h
  split at h
  · exact WX_weak (hg _ _ _ h) rfl ⟨lR_of h0, lI_of h2, trivial⟩
  · cases h
set_option maxRecDepth 20000 in
theorem e_X12_signAt_50 (F : Nat) (x0 : Nat) (x2 : Int32) (M : cM) : b_X12_signAt_50 F x0 x2 M = run T_X12_signAt P_RX12 false 2 (naL na_X12_signAt) (caL (ca_X12_signAt F)) (lkN th_X12_signAt) (lkN sw_X12_signAt) krI kxN (spL []) (KL []) 40 50 [some (.ref x0), none, some (.int x2)] [] M := rfl
theorem ok_X12_signAt_50 {X : cCtx} {D : Nat} {r : Int32 × cM} (G : FX X 3 (eI r) cX12_signAt RX12 2 D) {F : Nat} (hca : ∀ x ∈ (ca_X12_signAt (R' := Int32 × cM) F), 1 ≤ D ∧ ceS X.1 RX12 (D - 1) x.1 x.2) : ∀ x0 x2 M, f_X12_signAt_50 F x0 x2 M = some r → WX X 3 (eI r) 50 [some (.ref x0), none, some (.int x2)] [] M := by
  intro x0 x2 M h
  exact seg_ok G P_RX12_ok T_X12_signAt_ok hca (fun _ h => absurd h List.not_mem_nil) sw_X12_signAt_ok krI_ok (kxN_ok (f := eI)) (fun _ h => absurd h List.not_mem_nil) ((e_X12_signAt_50 F x0 x2 M).symm.trans h)
set_option maxRecDepth 20000 in
theorem e_X12_signAt_18 (F : Nat) (t50 : Nat → Int32 → cM → Option (Int32 × cM)) (x0 : Nat) (x1 : Int32) (x2 : Int32) (s0 : Nat) (s1 : Int32) (M : cM) : b_X12_signAt_18 F t50 x0 x1 x2 s0 s1 M = run T_X12_signAt P_RX12 false 2 (naL na_X12_signAt) (caL (ca_X12_signAt F)) (lkN th_X12_signAt) (lkN sw_X12_signAt) krI kxN (spL [50]) (KL [(50, kd_X12_signAt_50 t50)]) 40 18 [some (.ref x0), some (.int x1), some (.int x2)] [.int s1, .ref s0] M := rfl
theorem ok_X12_signAt_18 {X : cCtx} {D : Nat} {r : Int32 × cM} (G : FX X 3 (eI r) cX12_signAt RX12 2 D) {F : Nat} (hca : ∀ x ∈ (ca_X12_signAt (R' := Int32 × cM) F), 1 ≤ D ∧ ceS X.1 RX12 (D - 1) x.1 x.2) : ∀ x0 x1 x2 s0 s1 M, f_X12_signAt_18 F x0 x1 x2 s0 s1 M = some r → WX X 3 (eI r) 18 [some (.ref x0), some (.int x1), some (.int x2)] [.int s1, .ref s0] M := by
  intro x0 x1 x2 s0 s1 M h
  exact seg_ok G P_RX12_ok T_X12_signAt_ok hca (fun _ h => absurd h List.not_mem_nil) sw_X12_signAt_ok krI_ok (kxN_ok (f := eI)) (List.forall_mem_cons.mpr ⟨kf_X12_signAt_50 (ok_X12_signAt_50 G hca), fun _ h => absurd h List.not_mem_nil⟩) ((e_X12_signAt_18 F (f_X12_signAt_50 F) x0 x1 x2 s0 s1 M).symm.trans h)
set_option maxRecDepth 20000 in
theorem e_X12_signAt_0 (F : Nat) (t18 : Nat → Int32 → Int32 → Nat → Int32 → cM → Option (Int32 × cM)) (x0 : Nat) (x1 : Int32) (x2 : Int32) (M : cM) : b_X12_signAt_0 F t18 x0 x1 x2 M = run T_X12_signAt P_RX12 false 2 (naL na_X12_signAt) (caL (ca_X12_signAt F)) (lkN th_X12_signAt) (lkN sw_X12_signAt) krI kxN (spL [18]) (KL [(18, kd_X12_signAt_18 t18)]) 40 0 [some (.ref x0), some (.int x1), some (.int x2)] [] M := rfl
theorem ok_X12_signAt_0 {X : cCtx} {D : Nat} {r : Int32 × cM} (G : FX X 3 (eI r) cX12_signAt RX12 2 D) {F : Nat} (hca : ∀ x ∈ (ca_X12_signAt (R' := Int32 × cM) F), 1 ≤ D ∧ ceS X.1 RX12 (D - 1) x.1 x.2) : ∀ x0 x1 x2 M, f_X12_signAt_0 F x0 x1 x2 M = some r → WX X 3 (eI r) 0 [some (.ref x0), some (.int x1), some (.int x2)] [] M := by
  intro x0 x1 x2 M h
  exact seg_ok G P_RX12_ok T_X12_signAt_ok hca (fun _ h => absurd h List.not_mem_nil) sw_X12_signAt_ok krI_ok (kxN_ok (f := eI)) (List.forall_mem_cons.mpr ⟨kf_X12_signAt_18 (ok_X12_signAt_18 G hca), fun _ h => absurd h List.not_mem_nil⟩) ((e_X12_signAt_0 F (f_X12_signAt_18 F) x0 x1 x2 M).symm.trans h)
theorem c_X12_signAt {q : cL} (hst : q.1.stackTraces = false) {D : Nat} (hD : 6 ≤ D) (F : Nat) (a0 : Nat) (a1 : Int32) (a2 : Int32) (M : cM) (r : Int32 × cM) (h : f_X12_signAt F a0 a1 a2 M = some r) : CTx q yX12_signAt (.code yX12_signAt cX12_signAt 3 (some .char)) D [.ref a0, .int a1, .int a2] M (eI r) ∧ ∃ fs, M[a0]? = some (.inr (10, fs)) := by
  unfold f_X12_signAt at h
  split at h
  · next hi => exact ⟨CTx_of (own := RX12) (rk := 2) hst (by decide +kernel) rfl (rfl) (Nat.le_of_ble_eq_true rfl) (fun X hX G => by subst hX; exact ok_X12_signAt_0 G (ca_X12_signAt_ok hst hD F) a0 a1 a2 M h), isC_of hi⟩
  · cases h
-- PatchbayScriptModel.placeOf(II)I
def T_X12_placeOf : List cRow := [(0, .aload_n 0, 1, 0), (1, .aload_n 0, 2, 0), (2, .iload_n 1, 3, 0), (3, .invokevirtual 281, 6, 0), (6, .ifCond .ne 7, 9, 13), (9, .iconst 1, 10, 0), (10, .goto 18, 13, 28), (13, .iload_n 2, 14, 0), (14, .iconst 0, 15, 0), (15, .bipush 29, 17, 0), (17, .invokestatic 200, 20, 0), (20, .ifCond .ne 7, 23, 27), (23, .iconst 2, 24, 0), (24, .goto 4, 27, 28), (27, .iconst 0, 28, 0), (28, .putfield 196, 31, 0), (31, .aload_n 0, 32, 0), (32, .getfield 196, 35, 0), (35, .ifCond .le 5, 38, 40), (38, .iconst 0, 39, 0), (39, .ireturn, 40, 0), (40, .aload_n 0, 41, 0), (41, .iload_n 1, 42, 0), (42, .invokevirtual 284, 45, 0), (45, .aload_n 0, 46, 0), (46, .iload_n 2, 47, 0), (47, .invokevirtual 231, 50, 0), (50, .ireturn, 51, 0)]
theorem T_X12_placeOf_ok : T_X12_placeOf.all (rowB cX12_placeOf) = true := by decide +kernel
def th_X12_placeOf : List (Nat × Nat) := []
def sw_X12_placeOf : List (Nat × (List (Int32 × Nat) × Nat)) := []
theorem sw_X12_placeOf_ok : ∀ q ∈ sw_X12_placeOf, swS cX12_placeOf q := fun _ h => absurd h List.not_mem_nil
def na_X12_placeOf : List (Nat × Nat) := [(844, 2), (600, 3), (853, 2), (694, 2)]
def ca_X12_placeOf {R' : Type} (F : Nat) : List (Nat × cFn R') := [(844, n_X12_isLine (f_X12_isLine F)), (600, n_X12_isIn (f_X12_isIn F)), (853, n_X12_laysLine (f_X12_laysLine F)), (694, n_X12_place (f_X12_place F))]
theorem ca_X12_placeOf_ok {R' : Type} {q : cL} (hst : q.1.stackTraces = false) {D : Nat} (hD : 6 ≤ D) (F : Nat) : ∀ x ∈ (ca_X12_placeOf (R' := R') F), 1 ≤ D ∧ ceS q RX12 (D - 1) x.1 x.2 := List.forall_mem_cons.mpr ⟨⟨by omega, n_X12_isLine_ok (k := 281) (lw_good_of (tb_ok 1419 (by decide +kernel)) rfl) (fun a0 a1 M r h => c_X12_isLine hst (by omega) F a0 a1 M r h)⟩, List.forall_mem_cons.mpr ⟨⟨by omega, n_X12_isIn_ok (k := 200) (lw_good_of (tb_ok 1341 (by decide +kernel)) rfl) (fun a0 a1 a2 M r h => c_X12_isIn hst (by omega) F a0 a1 a2 M r h)⟩, List.forall_mem_cons.mpr ⟨⟨by omega, n_X12_laysLine_ok (k := 284) (lw_good_of (tb_ok 1363 (by decide +kernel)) rfl) (fun a0 a1 M r h => c_X12_laysLine hst (by omega) F a0 a1 M r h)⟩, List.forall_mem_cons.mpr ⟨⟨by omega, n_X12_place_ok (k := 231) (lw_good_of (tb_ok 1401 (by decide +kernel)) rfl) (fun a0 a1 M r h => c_X12_place hst (by omega) F a0 a1 M r h)⟩, fun _ h => absurd h List.not_mem_nil⟩⟩⟩⟩
def kd_X12_placeOf_28 (g : Nat → Int32 → Int32 → Nat → Int32 → cM → Option (Int32 × cM)) : cKf (Int32 × cM) := fun vs st M => (lR vs 0).bind fun x0 => (lI vs 1).bind fun x1 => (lI vs 2).bind fun x2 => match st with
  | [.int s1, .ref s0] => g x0 x1 x2 s0 s1 M
  | _ => none
theorem kf_X12_placeOf_28 {X : cCtx} {o : cO} {r : Int32 × cM} {g : Nat → Int32 → Int32 → Nat → Int32 → cM → Option (Int32 × cM)} (hg : ∀ x0 x1 x2 s0 s1 M, g x0 x1 x2 s0 s1 M = some r → WX X 3 o 28 [some (.ref x0), some (.int x1), some (.int x2)] [.int s1, .ref s0] M) : ∀ vs st M, kd_X12_placeOf_28 g vs st M = some r → WX X 3 o 28 vs st M := by
  intro vs st M h
  unfold kd_X12_placeOf_28 at h
  obtain ⟨x0, h0, h⟩ := Option.bind_eq_some_iff.mp h
  obtain ⟨x1, h1, h⟩ := Option.bind_eq_some_iff.mp h
  obtain ⟨x2, h2, h⟩ := Option.bind_eq_some_iff.mp h
  split at h
  · exact WX_weak (hg _ _ _ _ _ _ h) rfl ⟨lR_of h0, lI_of h1, lI_of h2, trivial⟩
  · cases h
set_option maxRecDepth 20000 in
theorem e_X12_placeOf_28 (F : Nat) (x0 : Nat) (x1 : Int32) (x2 : Int32) (s0 : Nat) (s1 : Int32) (M : cM) : b_X12_placeOf_28 F x0 x1 x2 s0 s1 M = run T_X12_placeOf P_RX12 false 0 (naL na_X12_placeOf) (caL (ca_X12_placeOf F)) (lkN th_X12_placeOf) (lkN sw_X12_placeOf) krI kxN (spL []) (KL []) 31 28 [some (.ref x0), some (.int x1), some (.int x2)] [.int s1, .ref s0] M := rfl
theorem ok_X12_placeOf_28 {X : cCtx} {D : Nat} {r : Int32 × cM} (G : FX X 3 (eI r) cX12_placeOf RX12 0 D) {F : Nat} (hca : ∀ x ∈ (ca_X12_placeOf (R' := Int32 × cM) F), 1 ≤ D ∧ ceS X.1 RX12 (D - 1) x.1 x.2) : ∀ x0 x1 x2 s0 s1 M, f_X12_placeOf_28 F x0 x1 x2 s0 s1 M = some r → WX X 3 (eI r) 28 [some (.ref x0), some (.int x1), some (.int x2)] [.int s1, .ref s0] M := by
  intro x0 x1 x2 s0 s1 M h
  exact seg_ok G P_RX12_ok T_X12_placeOf_ok hca (fun _ h => absurd h List.not_mem_nil) sw_X12_placeOf_ok krI_ok (kxN_ok (f := eI)) (fun _ h => absurd h List.not_mem_nil) ((e_X12_placeOf_28 F x0 x1 x2 s0 s1 M).symm.trans h)
set_option maxRecDepth 20000 in
theorem e_X12_placeOf_0 (F : Nat) (t28 : Nat → Int32 → Int32 → Nat → Int32 → cM → Option (Int32 × cM)) (x0 : Nat) (x1 : Int32) (x2 : Int32) (M : cM) : b_X12_placeOf_0 F t28 x0 x1 x2 M = run T_X12_placeOf P_RX12 false 0 (naL na_X12_placeOf) (caL (ca_X12_placeOf F)) (lkN th_X12_placeOf) (lkN sw_X12_placeOf) krI kxN (spL [28]) (KL [(28, kd_X12_placeOf_28 t28)]) 31 0 [some (.ref x0), some (.int x1), some (.int x2)] [] M := rfl
theorem ok_X12_placeOf_0 {X : cCtx} {D : Nat} {r : Int32 × cM} (G : FX X 3 (eI r) cX12_placeOf RX12 0 D) {F : Nat} (hca : ∀ x ∈ (ca_X12_placeOf (R' := Int32 × cM) F), 1 ≤ D ∧ ceS X.1 RX12 (D - 1) x.1 x.2) : ∀ x0 x1 x2 M, f_X12_placeOf_0 F x0 x1 x2 M = some r → WX X 3 (eI r) 0 [some (.ref x0), some (.int x1), some (.int x2)] [] M := by
  intro x0 x1 x2 M h
  exact seg_ok G P_RX12_ok T_X12_placeOf_ok hca (fun _ h => absurd h List.not_mem_nil) sw_X12_placeOf_ok krI_ok (kxN_ok (f := eI)) (List.forall_mem_cons.mpr ⟨kf_X12_placeOf_28 (ok_X12_placeOf_28 G hca), fun _ h => absurd h List.not_mem_nil⟩) ((e_X12_placeOf_0 F (f_X12_placeOf_28 F) x0 x1 x2 M).symm.trans h)
theorem c_X12_placeOf {q : cL} (hst : q.1.stackTraces = false) {D : Nat} (hD : 6 ≤ D) (F : Nat) (a0 : Nat) (a1 : Int32) (a2 : Int32) (M : cM) (r : Int32 × cM) (h : f_X12_placeOf F a0 a1 a2 M = some r) : CTx q yX12_placeOf (.code yX12_placeOf cX12_placeOf 3 (some .int)) D [.ref a0, .int a1, .int a2] M (eI r) ∧ ∃ fs, M[a0]? = some (.inr (10, fs)) := by
  unfold f_X12_placeOf at h
  split at h
  · next hi => exact ⟨CTx_of (own := RX12) (rk := 0) hst (by decide +kernel) rfl (rfl) (Nat.le_of_ble_eq_true rfl) (fun X hX G => by subst hX; exact ok_X12_placeOf_0 G (ca_X12_placeOf_ok hst hD F) a0 a1 a2 M h), isC_of hi⟩
  · cases h
-- PatchbayScriptModel.show(II)I
def T_X12_show : List cRow := [(0, .aload_n 0, 1, 0), (1, .iload_n 1, 2, 0), (2, .invokestatic 287, 5, 0), (5, .ifCond .eq 11, 8, 16), (8, .aload_n 0, 9, 0), (9, .iload_n 2, 10, 0), (10, .invokevirtual 281, 13, 0), (13, .ifCond .ne 7, 16, 20), (16, .iconst 1, 17, 0), (17, .goto 34, 20, 51), (20, .aload_n 0, 21, 0), (21, .getfield 269, 24, 0), (24, .ifCond .eq 22, 27, 46), (27, .aload_n 0, 28, 0), (28, .getfield 25, 31, 0), (31, .iload_n 1, 32, 0), (32, .iaload, 33, 0), (33, .iconst 4, 34, 0), (34, .if_icmp .eq 12, 37, 46), (37, .aload_n 0, 38, 0), (38, .iload_n 1, 39, 0), (39, .iload_n 2, 40, 0), (40, .invokevirtual 290, 43, 0), (43, .ifCond .eq 7, 46, 50), (46, .iconst 2, 47, 0), (47, .goto 4, 50, 51), (50, .iconst 0, 51, 0), (51, .putfield 196, 54, 0), (54, .aload_n 0, 55, 0), (55, .getfield 196, 58, 0), (58, .ifCond .le 5, 61, 63), (61, .iconst 0, 62, 0), (62, .ireturn, 63, 0), (63, .iconst 4, 64, 0), (64, .iload_n 1, 65, 0), (65, .imul, 66, 0), (66, .aload_n 0, 67, 0), (67, .getfield 25, 70, 0), (70, .iload_n 1, 71, 0), (71, .iaload, 72, 0), (72, .iadd, 73, 0), (73, .istore_n 3, 74, 0), (74, .aload_n 0, 75, 0), (75, .iload_n 2, 76, 0), (76, .invokevirtual 284, 79, 0), (79, .iconst 0, 80, 0), (80, .istore 4, 82, 0), (82, .iload 4, 84, 0), (84, .aload_n 0, 85, 0), (85, .getfield 214, 88, 0), (88, .if_icmp .ge 28, 91, 116), (91, .aload_n 0, 92, 0), (92, .getfield 31, 95, 0), (95, .bipush 20, 97, 0), (97, .iload_n 3, 98, 0), (98, .imul, 99, 0), (99, .iload 4, 101, 0), (101, .iadd, 102, 0), (102, .aload_n 0, 103, 0), (103, .getfield 113, 106, 0), (106, .iload 4, 108, 0), (108, .iaload, 109, 0), (109, .iastore, 110, 0), (110, .iinc 4 1, 113, 0), (113, .goto (-31), 116, 82), (116, .aload_n 0, 117, 0), (117, .getfield 34, 120, 0), (120, .iload_n 3, 121, 0), (121, .aload_n 0, 122, 0), (122, .getfield 214, 125, 0), (125, .iastore, 126, 0), (126, .iconst 0, 127, 0), (127, .istore 4, 129, 0), (129, .iload 4, 131, 0), (131, .aload_n 0, 132, 0), (132, .getfield 269, 135, 0), (135, .if_icmp .ge 28, 138, 163), (138, .aload_n 0, 139, 0), (139, .getfield 37, 142, 0), (142, .bipush 20, 144, 0), (144, .iload_n 3, 145, 0), (145, .imul, 146, 0), (146, .iload 4, 148, 0), (148, .iadd, 149, 0), (149, .aload_n 0, 150, 0), (150, .getfield 7, 153, 0), (153, .iload 4, 155, 0), (155, .iaload, 156, 0), (156, .iastore, 157, 0), (157, .iinc 4 1, 160, 0), (160, .goto (-31), 163, 129), (163, .aload_n 0, 164, 0), (164, .getfield 40, 167, 0), (167, .iload_n 3, 168, 0), (168, .aload_n 0, 169, 0), (169, .getfield 269, 172, 0), (172, .iastore, 173, 0), (173, .aload_n 0, 174, 0), (174, .getfield 28, 177, 0), (177, .iload_n 3, 178, 0), (178, .iload_n 2, 179, 0), (179, .iastore, 180, 0), (180, .aload_n 0, 181, 0), (181, .iconst 0, 182, 0), (182, .putfield 269, 185, 0), (185, .aload_n 0, 186, 0), (186, .getfield 25, 189, 0), (189, .iload_n 1, 190, 0), (190, .dup2, 191, 0), (191, .iaload, 192, 0), (192, .iconst 1, 193, 0), (193, .iadd, 194, 0), (194, .iastore, 195, 0), (195, .aload_n 0, 196, 0), (196, .getfield 22, 199, 0), (199, .bipush 40, 201, 0), (201, .iload_n 2, 202, 0), (202, .imul, 203, 0), (203, .aload_n 0, 204, 0), (204, .getfield 19, 207, 0), (207, .iload_n 2, 208, 0), (208, .iaload, 209, 0), (209, .iadd, 210, 0), (210, .iconst (-1), 211, 0), (211, .iload_n 3, 212, 0), (212, .isub, 213, 0), (213, .iastore, 214, 0), (214, .aload_n 0, 215, 0), (215, .getfield 19, 218, 0), (218, .iload_n 2, 219, 0), (219, .dup2, 220, 0), (220, .iaload, 221, 0), (221, .iconst 1, 222, 0), (222, .iadd, 223, 0), (223, .iastore, 224, 0), (224, .aload_n 0, 225, 0), (225, .getfield 25, 228, 0), (228, .iload_n 1, 229, 0), (229, .iaload, 230, 0), (230, .ireturn, 231, 0)]
theorem T_X12_show_ok : T_X12_show.all (rowB cX12_show) = true := by decide +kernel
def th_X12_show : List (Nat × Nat) := []
def sw_X12_show : List (Nat × (List (Int32 × Nat) × Nat)) := []
theorem sw_X12_show_ok : ∀ q ∈ sw_X12_show, swS cX12_show q := fun _ h => absurd h List.not_mem_nil
def na_X12_show : List (Nat × Nat) := [(861, 1), (844, 2), (871, 3), (853, 2)]
def ca_X12_show {R' : Type} (F : Nat) : List (Nat × cFn R') := [(861, n_X12_isTask (f_X12_isTask F)), (844, n_X12_isLine (f_X12_isLine F)), (871, n_X12_isShownOn (f_X12_isShownOn F)), (853, n_X12_laysLine (f_X12_laysLine F))]
theorem ca_X12_show_ok {R' : Type} {q : cL} (hst : q.1.stackTraces = false) {D : Nat} (hD : 6 ≤ D) (F : Nat) : ∀ x ∈ (ca_X12_show (R' := R') F), 1 ≤ D ∧ ceS q RX12 (D - 1) x.1 x.2 := List.forall_mem_cons.mpr ⟨⟨by omega, n_X12_isTask_ok (k := 287) (lw_good_of (tb_ok 1435 (by decide +kernel)) rfl) (fun a0 M r h => c_X12_isTask hst (by omega) F a0 M r h)⟩, List.forall_mem_cons.mpr ⟨⟨by omega, n_X12_isLine_ok (k := 281) (lw_good_of (tb_ok 1419 (by decide +kernel)) rfl) (fun a0 a1 M r h => c_X12_isLine hst (by omega) F a0 a1 M r h)⟩, List.forall_mem_cons.mpr ⟨⟨by omega, n_X12_isShownOn_ok (k := 290) (lw_good_of (tb_ok 1438 (by decide +kernel)) rfl) (fun a0 a1 a2 M r h => c_X12_isShownOn hst (by omega) F a0 a1 a2 M r h)⟩, List.forall_mem_cons.mpr ⟨⟨by omega, n_X12_laysLine_ok (k := 284) (lw_good_of (tb_ok 1363 (by decide +kernel)) rfl) (fun a0 a1 M r h => c_X12_laysLine hst (by omega) F a0 a1 M r h)⟩, fun _ h => absurd h List.not_mem_nil⟩⟩⟩⟩
def kd_X12_show_51 (g : Nat → Int32 → Int32 → Nat → Int32 → cM → Option (Int32 × cM)) : cKf (Int32 × cM) := fun vs st M => (lR vs 0).bind fun x0 => (lI vs 1).bind fun x1 => (lI vs 2).bind fun x2 => match st with
  | [.int s1, .ref s0] => g x0 x1 x2 s0 s1 M
  | _ => none
theorem kf_X12_show_51 {X : cCtx} {o : cO} {r : Int32 × cM} {g : Nat → Int32 → Int32 → Nat → Int32 → cM → Option (Int32 × cM)} (hg : ∀ x0 x1 x2 s0 s1 M, g x0 x1 x2 s0 s1 M = some r → WX X 5 o 51 [some (.ref x0), some (.int x1), some (.int x2), none, none] [.int s1, .ref s0] M) : ∀ vs st M, kd_X12_show_51 g vs st M = some r → WX X 5 o 51 vs st M := by
  intro vs st M h
  unfold kd_X12_show_51 at h
  obtain ⟨x0, h0, h⟩ := Option.bind_eq_some_iff.mp h
  obtain ⟨x1, h1, h⟩ := Option.bind_eq_some_iff.mp h
  obtain ⟨x2, h2, h⟩ := Option.bind_eq_some_iff.mp h
  split at h
  · exact WX_weak (hg _ _ _ _ _ _ h) rfl ⟨lR_of h0, lI_of h1, lI_of h2, trivial⟩
  · cases h
def kd_X12_show_82 (g : Nat → Int32 → Int32 → Int32 → Int32 → cM → Option (Int32 × cM)) : cKf (Int32 × cM) := fun vs st M => (lR vs 0).bind fun x0 => (lI vs 1).bind fun x1 => (lI vs 2).bind fun x2 => (lI vs 3).bind fun x3 => (lI vs 4).bind fun x4 => match st with
  | [] => g x0 x1 x2 x3 x4 M
  | _ => none
theorem kf_X12_show_82 {X : cCtx} {o : cO} {r : Int32 × cM} {g : Nat → Int32 → Int32 → Int32 → Int32 → cM → Option (Int32 × cM)} (hg : ∀ x0 x1 x2 x3 x4 M, g x0 x1 x2 x3 x4 M = some r → WX X 5 o 82 [some (.ref x0), some (.int x1), some (.int x2), some (.int x3), some (.int x4)] [] M) : ∀ vs st M, kd_X12_show_82 g vs st M = some r → WX X 5 o 82 vs st M := by
  intro vs st M h
  unfold kd_X12_show_82 at h
  obtain ⟨x0, h0, h⟩ := Option.bind_eq_some_iff.mp h
  obtain ⟨x1, h1, h⟩ := Option.bind_eq_some_iff.mp h
  obtain ⟨x2, h2, h⟩ := Option.bind_eq_some_iff.mp h
  obtain ⟨x3, h3, h⟩ := Option.bind_eq_some_iff.mp h
  obtain ⟨x4, h4, h⟩ := Option.bind_eq_some_iff.mp h
  split at h
  · exact WX_weak (hg _ _ _ _ _ _ h) rfl ⟨lR_of h0, lI_of h1, lI_of h2, lI_of h3, lI_of h4, trivial⟩
  · cases h
def kd_X12_show_129 (g : Nat → Int32 → Int32 → Int32 → Int32 → cM → Option (Int32 × cM)) : cKf (Int32 × cM) := fun vs st M => (lR vs 0).bind fun x0 => (lI vs 1).bind fun x1 => (lI vs 2).bind fun x2 => (lI vs 3).bind fun x3 => (lI vs 4).bind fun x4 => match st with
  | [] => g x0 x1 x2 x3 x4 M
  | _ => none
theorem kf_X12_show_129 {X : cCtx} {o : cO} {r : Int32 × cM} {g : Nat → Int32 → Int32 → Int32 → Int32 → cM → Option (Int32 × cM)} (hg : ∀ x0 x1 x2 x3 x4 M, g x0 x1 x2 x3 x4 M = some r → WX X 5 o 129 [some (.ref x0), some (.int x1), some (.int x2), some (.int x3), some (.int x4)] [] M) : ∀ vs st M, kd_X12_show_129 g vs st M = some r → WX X 5 o 129 vs st M := by
  intro vs st M h
  unfold kd_X12_show_129 at h
  obtain ⟨x0, h0, h⟩ := Option.bind_eq_some_iff.mp h
  obtain ⟨x1, h1, h⟩ := Option.bind_eq_some_iff.mp h
  obtain ⟨x2, h2, h⟩ := Option.bind_eq_some_iff.mp h
  obtain ⟨x3, h3, h⟩ := Option.bind_eq_some_iff.mp h
  obtain ⟨x4, h4, h⟩ := Option.bind_eq_some_iff.mp h
  split at h
  · exact WX_weak (hg _ _ _ _ _ _ h) rfl ⟨lR_of h0, lI_of h1, lI_of h2, lI_of h3, lI_of h4, trivial⟩
  · cases h
def kd_X12_show_195 (g : Nat → Int32 → Int32 → Int32 → cM → Option (Int32 × cM)) : cKf (Int32 × cM) := fun vs st M => (lR vs 0).bind fun x0 => (lI vs 1).bind fun x1 => (lI vs 2).bind fun x2 => (lI vs 3).bind fun x3 => match st with
  | [] => g x0 x1 x2 x3 M
  | _ => none
theorem kf_X12_show_195 {X : cCtx} {o : cO} {r : Int32 × cM} {g : Nat → Int32 → Int32 → Int32 → cM → Option (Int32 × cM)} (hg : ∀ x0 x1 x2 x3 M, g x0 x1 x2 x3 M = some r → WX X 5 o 195 [some (.ref x0), some (.int x1), some (.int x2), some (.int x3), none] [] M) : ∀ vs st M, kd_X12_show_195 g vs st M = some r → WX X 5 o 195 vs st M := by
  intro vs st M h
  unfold kd_X12_show_195 at h
  obtain ⟨x0, h0, h⟩ := Option.bind_eq_some_iff.mp h
  obtain ⟨x1, h1, h⟩ := Option.bind_eq_some_iff.mp h
  obtain ⟨x2, h2, h⟩ := Option.bind_eq_some_iff.mp h
  obtain ⟨x3, h3, h⟩ := Option.bind_eq_some_iff.mp h
  split at h
  · exact WX_weak (hg _ _ _ _ _ h) rfl ⟨lR_of h0, lI_of h1, lI_of h2, lI_of h3, trivial⟩
  · cases h
set_option maxRecDepth 20000 in
theorem e_X12_show_195 (F : Nat) (x0 : Nat) (x1 : Int32) (x2 : Int32) (x3 : Int32) (M : cM) : b_X12_show_195 F x0 x1 x2 x3 M = run T_X12_show P_RX12 false 0 (naL na_X12_show) (caL (ca_X12_show F)) (lkN th_X12_show) (lkN sw_X12_show) krI kxN (spL []) (KL []) 143 195 [some (.ref x0), some (.int x1), some (.int x2), some (.int x3), none] [] M := rfl
theorem ok_X12_show_195 {X : cCtx} {D : Nat} {r : Int32 × cM} (G : FX X 5 (eI r) cX12_show RX12 0 D) {F : Nat} (hca : ∀ x ∈ (ca_X12_show (R' := Int32 × cM) F), 1 ≤ D ∧ ceS X.1 RX12 (D - 1) x.1 x.2) : ∀ x0 x1 x2 x3 M, f_X12_show_195 F x0 x1 x2 x3 M = some r → WX X 5 (eI r) 195 [some (.ref x0), some (.int x1), some (.int x2), some (.int x3), none] [] M := by
  intro x0 x1 x2 x3 M h
  exact seg_ok G P_RX12_ok T_X12_show_ok hca (fun _ h => absurd h List.not_mem_nil) sw_X12_show_ok krI_ok (kxN_ok (f := eI)) (fun _ h => absurd h List.not_mem_nil) ((e_X12_show_195 F x0 x1 x2 x3 M).symm.trans h)
set_option maxRecDepth 20000 in
theorem e_X12_show_129 (F : Nat) (t129 : Nat → Int32 → Int32 → Int32 → Int32 → cM → Option (Int32 × cM)) (t195 : Nat → Int32 → Int32 → Int32 → cM → Option (Int32 × cM)) (x0 : Nat) (x1 : Int32) (x2 : Int32) (x3 : Int32) (x4 : Int32) (M : cM) : b_X12_show_129 F t129 t195 x0 x1 x2 x3 x4 M = run T_X12_show P_RX12 false 0 (naL na_X12_show) (caL (ca_X12_show F)) (lkN th_X12_show) (lkN sw_X12_show) krI kxN (spL [129, 195]) (KL [(129, kd_X12_show_129 t129), (195, kd_X12_show_195 t195)]) 143 129 [some (.ref x0), some (.int x1), some (.int x2), some (.int x3), some (.int x4)] [] M := rfl
theorem ok_X12_show_129 {X : cCtx} {D : Nat} {r : Int32 × cM} (G : FX X 5 (eI r) cX12_show RX12 0 D) {F : Nat} (hca : ∀ x ∈ (ca_X12_show (R' := Int32 × cM) F), 1 ≤ D ∧ ceS X.1 RX12 (D - 1) x.1 x.2) (n : Nat) : ∀ x0 x1 x2 x3 x4 M, f_X12_show_129 F n x0 x1 x2 x3 x4 M = some r → WX X 5 (eI r) 129 [some (.ref x0), some (.int x1), some (.int x2), some (.int x3), some (.int x4)] [] M := by
  induction n with
  | zero => intro x0 x1 x2 x3 x4 M h; cases h
  | succ n ih =>
    intro x0 x1 x2 x3 x4 M h
    exact seg_ok G P_RX12_ok T_X12_show_ok hca (fun _ h => absurd h List.not_mem_nil) sw_X12_show_ok krI_ok (kxN_ok (f := eI)) (List.forall_mem_cons.mpr ⟨kf_X12_show_129 (ih), List.forall_mem_cons.mpr ⟨kf_X12_show_195 (ok_X12_show_195 G hca), fun _ h => absurd h List.not_mem_nil⟩⟩) ((e_X12_show_129 F (f_X12_show_129 F n) (f_X12_show_195 F) x0 x1 x2 x3 x4 M).symm.trans h)
set_option maxRecDepth 20000 in
theorem e_X12_show_82 (F : Nat) (t82 : Nat → Int32 → Int32 → Int32 → Int32 → cM → Option (Int32 × cM)) (t129 : Nat → Int32 → Int32 → Int32 → Int32 → cM → Option (Int32 × cM)) (x0 : Nat) (x1 : Int32) (x2 : Int32) (x3 : Int32) (x4 : Int32) (M : cM) : b_X12_show_82 F t82 t129 x0 x1 x2 x3 x4 M = run T_X12_show P_RX12 false 0 (naL na_X12_show) (caL (ca_X12_show F)) (lkN th_X12_show) (lkN sw_X12_show) krI kxN (spL [82, 129]) (KL [(82, kd_X12_show_82 t82), (129, kd_X12_show_129 t129)]) 143 82 [some (.ref x0), some (.int x1), some (.int x2), some (.int x3), some (.int x4)] [] M := rfl
theorem ok_X12_show_82 {X : cCtx} {D : Nat} {r : Int32 × cM} (G : FX X 5 (eI r) cX12_show RX12 0 D) {F : Nat} (hca : ∀ x ∈ (ca_X12_show (R' := Int32 × cM) F), 1 ≤ D ∧ ceS X.1 RX12 (D - 1) x.1 x.2) (n : Nat) : ∀ x0 x1 x2 x3 x4 M, f_X12_show_82 F n x0 x1 x2 x3 x4 M = some r → WX X 5 (eI r) 82 [some (.ref x0), some (.int x1), some (.int x2), some (.int x3), some (.int x4)] [] M := by
  induction n with
  | zero => intro x0 x1 x2 x3 x4 M h; cases h
  | succ n ih =>
    intro x0 x1 x2 x3 x4 M h
    exact seg_ok G P_RX12_ok T_X12_show_ok hca (fun _ h => absurd h List.not_mem_nil) sw_X12_show_ok krI_ok (kxN_ok (f := eI)) (List.forall_mem_cons.mpr ⟨kf_X12_show_82 (ih), List.forall_mem_cons.mpr ⟨kf_X12_show_129 (ok_X12_show_129 G hca F), fun _ h => absurd h List.not_mem_nil⟩⟩) ((e_X12_show_82 F (f_X12_show_82 F n) (f_X12_show_129 F F) x0 x1 x2 x3 x4 M).symm.trans h)
set_option maxRecDepth 20000 in
theorem e_X12_show_51 (F : Nat) (t82 : Nat → Int32 → Int32 → Int32 → Int32 → cM → Option (Int32 × cM)) (x0 : Nat) (x1 : Int32) (x2 : Int32) (s0 : Nat) (s1 : Int32) (M : cM) : b_X12_show_51 F t82 x0 x1 x2 s0 s1 M = run T_X12_show P_RX12 false 0 (naL na_X12_show) (caL (ca_X12_show F)) (lkN th_X12_show) (lkN sw_X12_show) krI kxN (spL [82]) (KL [(82, kd_X12_show_82 t82)]) 143 51 [some (.ref x0), some (.int x1), some (.int x2), none, none] [.int s1, .ref s0] M := rfl
theorem ok_X12_show_51 {X : cCtx} {D : Nat} {r : Int32 × cM} (G : FX X 5 (eI r) cX12_show RX12 0 D) {F : Nat} (hca : ∀ x ∈ (ca_X12_show (R' := Int32 × cM) F), 1 ≤ D ∧ ceS X.1 RX12 (D - 1) x.1 x.2) : ∀ x0 x1 x2 s0 s1 M, f_X12_show_51 F x0 x1 x2 s0 s1 M = some r → WX X 5 (eI r) 51 [some (.ref x0), some (.int x1), some (.int x2), none, none] [.int s1, .ref s0] M := by
  intro x0 x1 x2 s0 s1 M h
  exact seg_ok G P_RX12_ok T_X12_show_ok hca (fun _ h => absurd h List.not_mem_nil) sw_X12_show_ok krI_ok (kxN_ok (f := eI)) (List.forall_mem_cons.mpr ⟨kf_X12_show_82 (ok_X12_show_82 G hca F), fun _ h => absurd h List.not_mem_nil⟩) ((e_X12_show_51 F (f_X12_show_82 F F) x0 x1 x2 s0 s1 M).symm.trans h)
set_option maxRecDepth 20000 in
theorem e_X12_show_0 (F : Nat) (t51 : Nat → Int32 → Int32 → Nat → Int32 → cM → Option (Int32 × cM)) (x0 : Nat) (x1 : Int32) (x2 : Int32) (M : cM) : b_X12_show_0 F t51 x0 x1 x2 M = run T_X12_show P_RX12 false 0 (naL na_X12_show) (caL (ca_X12_show F)) (lkN th_X12_show) (lkN sw_X12_show) krI kxN (spL [51]) (KL [(51, kd_X12_show_51 t51)]) 143 0 [some (.ref x0), some (.int x1), some (.int x2), none, none] [] M := rfl
theorem ok_X12_show_0 {X : cCtx} {D : Nat} {r : Int32 × cM} (G : FX X 5 (eI r) cX12_show RX12 0 D) {F : Nat} (hca : ∀ x ∈ (ca_X12_show (R' := Int32 × cM) F), 1 ≤ D ∧ ceS X.1 RX12 (D - 1) x.1 x.2) : ∀ x0 x1 x2 M, f_X12_show_0 F x0 x1 x2 M = some r → WX X 5 (eI r) 0 [some (.ref x0), some (.int x1), some (.int x2), none, none] [] M := by
  intro x0 x1 x2 M h
  exact seg_ok G P_RX12_ok T_X12_show_ok hca (fun _ h => absurd h List.not_mem_nil) sw_X12_show_ok krI_ok (kxN_ok (f := eI)) (List.forall_mem_cons.mpr ⟨kf_X12_show_51 (ok_X12_show_51 G hca), fun _ h => absurd h List.not_mem_nil⟩) ((e_X12_show_0 F (f_X12_show_51 F) x0 x1 x2 M).symm.trans h)
theorem c_X12_show {q : cL} (hst : q.1.stackTraces = false) {D : Nat} (hD : 6 ≤ D) (F : Nat) (a0 : Nat) (a1 : Int32) (a2 : Int32) (M : cM) (r : Int32 × cM) (h : f_X12_show F a0 a1 a2 M = some r) : CTx q yX12_show (.code yX12_show cX12_show 5 (some .int)) D [.ref a0, .int a1, .int a2] M (eI r) ∧ ∃ fs, M[a0]? = some (.inr (10, fs)) := by
  unfold f_X12_show at h
  split at h
  · next hi => exact ⟨CTx_of (own := RX12) (rk := 0) hst (by decide +kernel) rfl (rfl) (Nat.le_of_ble_eq_true rfl) (fun X hX G => by subst hX; exact ok_X12_show_0 G (ca_X12_show_ok hst hD F) a0 a1 a2 M h), isC_of hi⟩
  · cases h
