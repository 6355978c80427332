/-! METHODS, part 17 (laid by wip/whole/tools/gen.py) -/
-- PatchbayScriptModel.isFit(II)Z
def T_X12_isFit : List cRow := [(0, .iconst 1, 1, 0), (1, .istore_n 3, 2, 0), (2, .iconst 4, 3, 0), (3, .iload_n 2, 4, 0), (4, .imul, 5, 0), (5, .istore 4, 7, 0), (7, .iload 4, 9, 0), (9, .iconst 4, 10, 0), (10, .iload_n 2, 11, 0), (11, .imul, 12, 0), (12, .aload_n 0, 13, 0), (13, .getfield 43, 16, 0), (16, .iload_n 2, 17, 0), (17, .iaload, 18, 0), (18, .iadd, 19, 0), (19, .if_icmp .ge 126, 22, 145), (22, .aload_n 0, 23, 0), (23, .aload_n 0, 24, 0), (24, .getfield 46, 27, 0), (27, .bipush 20, 29, 0), (29, .iload 4, 31, 0), (31, .imul, 32, 0), (32, .aload_n 0, 33, 0), (33, .getfield 49, 36, 0), (36, .iload 4, 38, 0), (38, .iaload, 39, 0), (39, .invokevirtual 259, 42, 0), (42, .aload_n 0, 43, 0), (43, .iload_n 1, 44, 0), (44, .invokevirtual 256, 47, 0), (47, .ifCond .eq 21, 50, 68), (50, .aload_n 0, 51, 0), (51, .getfield 228, 54, 0), (54, .aload_n 0, 55, 0), (55, .getfield 55, 58, 0), (58, .iload 4, 60, 0), (60, .iaload, 61, 0), (61, .if_icmp .ne 7, 64, 68), (64, .iconst 1, 65, 0), (65, .goto 4, 68, 69), (68, .iconst 0, 69, 0), (69, .istore 5, 71, 0), (71, .iconst 0, 72, 0), (72, .istore 6, 74, 0), (74, .iload 6, 76, 0), (76, .aload_n 0, 77, 0), (77, .getfield 228, 80, 0), (80, .if_icmp .ge 44, 83, 124), (83, .iload 5, 85, 0), (85, .ifCond .eq 39, 88, 124), (88, .aload_n 0, 89, 0), (89, .getfield 125, 92, 0), (92, .iload 6, 94, 0), (94, .iaload, 95, 0), (95, .aload_n 0, 96, 0), (96, .getfield 52, 99, 0), (99, .bipush 20, 101, 0), (101, .iload 4, 103, 0), (103, .imul, 104, 0), (104, .iload 6, 106, 0), (106, .iadd, 107, 0), (107, .iaload, 108, 0), (108, .if_icmp .ne 7, 111, 115), (111, .iconst 1, 112, 0), (112, .goto 4, 115, 116), (115, .iconst 0, 116, 0), (116, .istore 5, 118, 0), (118, .iinc 6 1, 121, 0), (121, .goto (-47), 124, 74), (124, .iload_n 3, 125, 0), (125, .ifCond .eq 12, 128, 137), (128, .iload 5, 130, 0), (130, .ifCond .ne 7, 133, 137), (133, .iconst 1, 134, 0), (134, .goto 4, 137, 138), (137, .iconst 0, 138, 0), (138, .istore_n 3, 139, 0), (139, .iinc 4 1, 142, 0), (142, .goto (-135), 145, 7), (145, .iload_n 3, 146, 0), (146, .ireturn, 147, 0)]
theorem T_X12_isFit_ok : T_X12_isFit.all (rowB cX12_isFit) = true := by decide +kernel
def th_X12_isFit : List (Nat × Nat) := []
def sw_X12_isFit : List (Nat × (List (Int32 × Nat) × Nat)) := []
theorem sw_X12_isFit_ok : ∀ q ∈ sw_X12_isFit, swS cX12_isFit q := fun _ h => absurd h List.not_mem_nil
def na_X12_isFit : List (Nat × Nat) := [(778, 4), (769, 2)]
def ca_X12_isFit {R' : Type} (F : Nat) : List (Nat × cFn R') := [(778, n_X12_takes (f_X12_takes F)), (769, n_X12_makes (f_X12_makes F))]
theorem ca_X12_isFit_ok {R' : Type} {q : cL} (hst : q.1.stackTraces = false) {D : Nat} (hD : 5 ≤ D) (F : Nat) : ∀ x ∈ (ca_X12_isFit (R' := R') F), 1 ≤ D ∧ ceS q RX12 (D - 1) x.1 x.2 := List.forall_mem_cons.mpr ⟨⟨by omega, n_X12_takes_ok (k := 259) (lw_good_of (tb_ok 1367 (by decide +kernel)) rfl) (fun a0 a1 a2 a3 M r h => c_X12_takes hst (by omega) F a0 a1 a2 a3 M r h)⟩, List.forall_mem_cons.mpr ⟨⟨by omega, n_X12_makes_ok (k := 256) (lw_good_of (tb_ok 1389 (by decide +kernel)) rfl) (fun a0 a1 M r h => c_X12_makes hst (by omega) F a0 a1 M r h)⟩, fun _ h => absurd h List.not_mem_nil⟩⟩
def kd_X12_isFit_7 (g : Nat → Int32 → Int32 → Int32 → Int32 → cM → Option (Int32 × cM)) : cKf (Int32 × cM) := fun vs st M => (lR vs 0).bind fun x0 => (lI vs 1).bind fun x1 => (lI vs 2).bind fun x2 => (lI vs 3).bind fun x3 => (lI vs 4).bind fun x4 => match st with
  | [] => g x0 x1 x2 x3 x4 M
  | _ => none
theorem kf_X12_isFit_7 {X : cCtx} {o : cO} {r : Int32 × cM} {g : Nat → Int32 → Int32 → Int32 → Int32 → cM → Option (Int32 × cM)} (hg : ∀ x0 x1 x2 x3 x4 M, g x0 x1 x2 x3 x4 M = some r → WX X 7 o 7 [some (.ref x0), some (.int x1), some (.int x2), some (.int x3), some (.int x4), none, none] [] M) : ∀ vs st M, kd_X12_isFit_7 g vs st M = some r → WX X 7 o 7 vs st M := by
  intro vs st M h
  unfold kd_X12_isFit_7 at h
  obtain ⟨x0, h0, h⟩ := Option.bind_eq_some_iff.mp h
  obtain ⟨x1, h1, h⟩ := Option.bind_eq_some_iff.mp h
  obtain ⟨x2, h2, h⟩ := Option.bind_eq_some_iff.mp h
  obtain ⟨x3, h3, h⟩ := Option.bind_eq_some_iff.mp h
  obtain ⟨x4, h4, h⟩ := Option.bind_eq_some_iff.mp h
  split at h
  · exact WX_weak (hg _ _ _ _ _ _ h) rfl ⟨lR_of h0, lI_of h1, lI_of h2, lI_of h3, lI_of h4, trivial⟩
  · cases h
def kd_X12_isFit_74 (g : Nat → Int32 → Int32 → Int32 → Int32 → Int32 → Int32 → cM → Option (Int32 × cM)) : cKf (Int32 × cM) := fun vs st M => (lR vs 0).bind fun x0 => (lI vs 1).bind fun x1 => (lI vs 2).bind fun x2 => (lI vs 3).bind fun x3 => (lI vs 4).bind fun x4 => (lI vs 5).bind fun x5 => (lI vs 6).bind fun x6 => match st with
  | [] => g x0 x1 x2 x3 x4 x5 x6 M
  | _ => none
theorem kf_X12_isFit_74 {X : cCtx} {o : cO} {r : Int32 × cM} {g : Nat → Int32 → Int32 → Int32 → Int32 → Int32 → Int32 → cM → Option (Int32 × cM)} (hg : ∀ x0 x1 x2 x3 x4 x5 x6 M, g x0 x1 x2 x3 x4 x5 x6 M = some r → WX X 7 o 74 [some (.ref x0), some (.int x1), some (.int x2), some (.int x3), some (.int x4), some (.int x5), some (.int x6)] [] M) : ∀ vs st M, kd_X12_isFit_74 g vs st M = some r → WX X 7 o 74 vs st M := by
  intro vs st M h
  unfold kd_X12_isFit_74 at h
  obtain ⟨x0, h0, h⟩ := Option.bind_eq_some_iff.mp h
  obtain ⟨x1, h1, h⟩ := Option.bind_eq_some_iff.mp h
  obtain ⟨x2, h2, h⟩ := Option.bind_eq_some_iff.mp h
  obtain ⟨x3, h3, h⟩ := Option.bind_eq_some_iff.mp h
  obtain ⟨x4, h4, h⟩ := Option.bind_eq_some_iff.mp h
  obtain ⟨x5, h5, h⟩ := Option.bind_eq_some_iff.mp h
  obtain ⟨x6, h6, h⟩ := Option.bind_eq_some_iff.mp h
  split at h
  · exact WX_weak (hg _ _ _ _ _ _ _ _ h) rfl ⟨lR_of h0, lI_of h1, lI_of h2, lI_of h3, lI_of h4, lI_of h5, lI_of h6, trivial⟩
  · cases h
def kd_X12_isFit_124 (g : Nat → Int32 → Int32 → Int32 → Int32 → Int32 → cM → Option (Int32 × cM)) : cKf (Int32 × cM) := fun vs st M => (lR vs 0).bind fun x0 => (lI vs 1).bind fun x1 => (lI vs 2).bind fun x2 => (lI vs 3).bind fun x3 => (lI vs 4).bind fun x4 => (lI vs 5).bind fun x5 => match st with
  | [] => g x0 x1 x2 x3 x4 x5 M
  | _ => none
theorem kf_X12_isFit_124 {X : cCtx} {o : cO} {r : Int32 × cM} {g : Nat → Int32 → Int32 → Int32 → Int32 → Int32 → cM → Option (Int32 × cM)} (hg : ∀ x0 x1 x2 x3 x4 x5 M, g x0 x1 x2 x3 x4 x5 M = some r → WX X 7 o 124 [some (.ref x0), some (.int x1), some (.int x2), some (.int x3), some (.int x4), some (.int x5), none] [] M) : ∀ vs st M, kd_X12_isFit_124 g vs st M = some r → WX X 7 o 124 vs st M := by
  intro vs st M h
  unfold kd_X12_isFit_124 at h
  obtain ⟨x0, h0, h⟩ := Option.bind_eq_some_iff.mp h
  obtain ⟨x1, h1, h⟩ := Option.bind_eq_some_iff.mp h
  obtain ⟨x2, h2, h⟩ := Option.bind_eq_some_iff.mp h
  obtain ⟨x3, h3, h⟩ := Option.bind_eq_some_iff.mp h
  obtain ⟨x4, h4, h⟩ := Option.bind_eq_some_iff.mp h
  obtain ⟨x5, h5, h⟩ := Option.bind_eq_some_iff.mp h
  split at h
  · exact WX_weak (hg _ _ _ _ _ _ _ h) rfl ⟨lR_of h0, lI_of h1, lI_of h2, lI_of h3, lI_of h4, lI_of h5, trivial⟩
  · cases h
set_option maxRecDepth 20000 in
theorem e_X12_isFit_124 (F : Nat) (t7 : Nat → Int32 → Int32 → Int32 → Int32 → cM → Option (Int32 × cM)) (x0 : Nat) (x1 : Int32) (x2 : Int32) (x3 : Int32) (x4 : Int32) (x5 : Int32) (M : cM) : b_X12_isFit_124 F t7 x0 x1 x2 x3 x4 x5 M = run T_X12_isFit P_RX12 false 1 (naL na_X12_isFit) (caL (ca_X12_isFit F)) (lkN th_X12_isFit) (lkN sw_X12_isFit) krI kxN (spL [7]) (KL [(7, kd_X12_isFit_7 t7)]) 84 124 [some (.ref x0), some (.int x1), some (.int x2), some (.int x3), some (.int x4), some (.int x5), none] [] M := rfl
theorem ok_X12_isFit_124 {X : cCtx} {D : Nat} {r : Int32 × cM} (G : FX X 7 (eI r) cX12_isFit RX12 1 D) {F : Nat} (hca : ∀ x ∈ (ca_X12_isFit (R' := Int32 × cM) F), 1 ≤ D ∧ ceS X.1 RX12 (D - 1) x.1 x.2) (k7 : Nat → Int32 → Int32 → Int32 → Int32 → cM → Option (Int32 × cM)) (hk7 : ∀ x0 x1 x2 x3 x4 M, k7 x0 x1 x2 x3 x4 M = some r → WX X 7 (eI r) 7 [some (.ref x0), some (.int x1), some (.int x2), some (.int x3), some (.int x4), none, none] [] M) : ∀ x0 x1 x2 x3 x4 x5 M, f_X12_isFit_124 F k7 x0 x1 x2 x3 x4 x5 M = some r → WX X 7 (eI r) 124 [some (.ref x0), some (.int x1), some (.int x2), some (.int x3), some (.int x4), some (.int x5), none] [] M := by
  intro x0 x1 x2 x3 x4 x5 M h
  exact seg_ok G P_RX12_ok T_X12_isFit_ok hca (fun _ h => absurd h List.not_mem_nil) sw_X12_isFit_ok krI_ok (kxN_ok (f := eI)) (List.forall_mem_cons.mpr ⟨kf_X12_isFit_7 (hk7), fun _ h => absurd h List.not_mem_nil⟩) ((e_X12_isFit_124 F (k7) x0 x1 x2 x3 x4 x5 M).symm.trans h)
set_option maxRecDepth 20000 in
theorem e_X12_isFit_74 (F : Nat) (t74 : Nat → Int32 → Int32 → Int32 → Int32 → Int32 → Int32 → cM → Option (Int32 × cM)) (t124 : Nat → Int32 → Int32 → Int32 → Int32 → Int32 → cM → Option (Int32 × cM)) (x0 : Nat) (x1 : Int32) (x2 : Int32) (x3 : Int32) (x4 : Int32) (x5 : Int32) (x6 : Int32) (M : cM) : b_X12_isFit_74 F t74 t124 x0 x1 x2 x3 x4 x5 x6 M = run T_X12_isFit P_RX12 false 1 (naL na_X12_isFit) (caL (ca_X12_isFit F)) (lkN th_X12_isFit) (lkN sw_X12_isFit) krI kxN (spL [74, 124]) (KL [(74, kd_X12_isFit_74 t74), (124, kd_X12_isFit_124 t124)]) 84 74 [some (.ref x0), some (.int x1), some (.int x2), some (.int x3), some (.int x4), some (.int x5), some (.int x6)] [] M := rfl
theorem ok_X12_isFit_74 {X : cCtx} {D : Nat} {r : Int32 × cM} (G : FX X 7 (eI r) cX12_isFit RX12 1 D) {F : Nat} (hca : ∀ x ∈ (ca_X12_isFit (R' := Int32 × cM) F), 1 ≤ D ∧ ceS X.1 RX12 (D - 1) x.1 x.2) (k7 : Nat → Int32 → Int32 → Int32 → Int32 → cM → Option (Int32 × cM)) (hk7 : ∀ x0 x1 x2 x3 x4 M, k7 x0 x1 x2 x3 x4 M = some r → WX X 7 (eI r) 7 [some (.ref x0), some (.int x1), some (.int x2), some (.int x3), some (.int x4), none, none] [] M) (n : Nat) : ∀ x0 x1 x2 x3 x4 x5 x6 M, f_X12_isFit_74 F k7 n x0 x1 x2 x3 x4 x5 x6 M = some r → WX X 7 (eI r) 74 [some (.ref x0), some (.int x1), some (.int x2), some (.int x3), some (.int x4), some (.int x5), some (.int x6)] [] M := by
  induction n with
  | zero => intro x0 x1 x2 x3 x4 x5 x6 M h; cases h
  | succ n ih =>
    intro x0 x1 x2 x3 x4 x5 x6 M h
    exact seg_ok G P_RX12_ok T_X12_isFit_ok hca (fun _ h => absurd h List.not_mem_nil) sw_X12_isFit_ok krI_ok (kxN_ok (f := eI)) (List.forall_mem_cons.mpr ⟨kf_X12_isFit_74 (ih), List.forall_mem_cons.mpr ⟨kf_X12_isFit_124 (ok_X12_isFit_124 G hca k7 hk7), fun _ h => absurd h List.not_mem_nil⟩⟩) ((e_X12_isFit_74 F (f_X12_isFit_74 F k7 n) (f_X12_isFit_124 F k7) x0 x1 x2 x3 x4 x5 x6 M).symm.trans h)
set_option maxRecDepth 20000 in
theorem e_X12_isFit_7 (F : Nat) (t74 : Nat → Int32 → Int32 → Int32 → Int32 → Int32 → Int32 → cM → Option (Int32 × cM)) (x0 : Nat) (x1 : Int32) (x2 : Int32) (x3 : Int32) (x4 : Int32) (M : cM) : b_X12_isFit_7 F t74 x0 x1 x2 x3 x4 M = run T_X12_isFit P_RX12 false 1 (naL na_X12_isFit) (caL (ca_X12_isFit F)) (lkN th_X12_isFit) (lkN sw_X12_isFit) krI kxN (spL [74]) (KL [(74, kd_X12_isFit_74 t74)]) 84 7 [some (.ref x0), some (.int x1), some (.int x2), some (.int x3), some (.int x4), none, none] [] M := rfl
theorem ok_X12_isFit_7 {X : cCtx} {D : Nat} {r : Int32 × cM} (G : FX X 7 (eI r) cX12_isFit RX12 1 D) {F : Nat} (hca : ∀ x ∈ (ca_X12_isFit (R' := Int32 × cM) F), 1 ≤ D ∧ ceS X.1 RX12 (D - 1) x.1 x.2) (n : Nat) : ∀ x0 x1 x2 x3 x4 M, f_X12_isFit_7 F n x0 x1 x2 x3 x4 M = some r → WX X 7 (eI r) 7 [some (.ref x0), some (.int x1), some (.int x2), some (.int x3), some (.int x4), none, none] [] M := by
  induction n with
  | zero => intro x0 x1 x2 x3 x4 M h; cases h
  | succ n ih =>
    intro x0 x1 x2 x3 x4 M h
    exact seg_ok G P_RX12_ok T_X12_isFit_ok hca (fun _ h => absurd h List.not_mem_nil) sw_X12_isFit_ok krI_ok (kxN_ok (f := eI)) (List.forall_mem_cons.mpr ⟨kf_X12_isFit_74 (ok_X12_isFit_74 G hca (f_X12_isFit_7 F n) ih F), fun _ h => absurd h List.not_mem_nil⟩) ((e_X12_isFit_7 F (f_X12_isFit_74 F (f_X12_isFit_7 F n) F) x0 x1 x2 x3 x4 M).symm.trans h)
set_option maxRecDepth 20000 in
theorem e_X12_isFit_0 (F : Nat) (t7 : Nat → Int32 → Int32 → Int32 → Int32 → cM → Option (Int32 × cM)) (x0 : Nat) (x1 : Int32) (x2 : Int32) (M : cM) : b_X12_isFit_0 F t7 x0 x1 x2 M = run T_X12_isFit P_RX12 false 1 (naL na_X12_isFit) (caL (ca_X12_isFit F)) (lkN th_X12_isFit) (lkN sw_X12_isFit) krI kxN (spL [7]) (KL [(7, kd_X12_isFit_7 t7)]) 84 0 [some (.ref x0), some (.int x1), some (.int x2), none, none, none, none] [] M := rfl
theorem ok_X12_isFit_0 {X : cCtx} {D : Nat} {r : Int32 × cM} (G : FX X 7 (eI r) cX12_isFit RX12 1 D) {F : Nat} (hca : ∀ x ∈ (ca_X12_isFit (R' := Int32 × cM) F), 1 ≤ D ∧ ceS X.1 RX12 (D - 1) x.1 x.2) : ∀ x0 x1 x2 M, f_X12_isFit_0 F x0 x1 x2 M = some r → WX X 7 (eI r) 0 [some (.ref x0), some (.int x1), some (.int x2), none, none, none, none] [] M := by
  intro x0 x1 x2 M h
  exact seg_ok G P_RX12_ok T_X12_isFit_ok hca (fun _ h => absurd h List.not_mem_nil) sw_X12_isFit_ok krI_ok (kxN_ok (f := eI)) (List.forall_mem_cons.mpr ⟨kf_X12_isFit_7 (ok_X12_isFit_7 G hca F), fun _ h => absurd h List.not_mem_nil⟩) ((e_X12_isFit_0 F (f_X12_isFit_7 F F) x0 x1 x2 M).symm.trans h)
theorem c_X12_isFit {q : cL} (hst : q.1.stackTraces = false) {D : Nat} (hD : 5 ≤ D) (F : Nat) (a0 : Nat) (a1 : Int32) (a2 : Int32) (M : cM) (r : Int32 × cM) (h : f_X12_isFit F a0 a1 a2 M = some r) : CTx q yX12_isFit (.code yX12_isFit cX12_isFit 7 (some .boolean)) D [.ref a0, .int a1, .int a2] M (eI r) ∧ ∃ fs, M[a0]? = some (.inr (10, fs)) := by
  unfold f_X12_isFit at h
  split at h
  · next hi => exact ⟨CTx_of (own := RX12) (rk := 1) hst (by decide +kernel) rfl (rfl) (Nat.le_of_ble_eq_true rfl) (fun X hX G => by subst hX; exact ok_X12_isFit_0 G (ca_X12_isFit_ok hst hD F) a0 a1 a2 M h), isC_of hi⟩
  · cases h
def n_X12_isFit {R' : Type} (f : Nat → Int32 → Int32 → cM → Option (Int32 × cM)) : cFn R' := fun as M κ κx => match as with
  | [.ref a0, .int a1, .int a2] => (f a0 a1 a2 M).bind fun p => κ (some (.int p.1)) p.2
  | _ => none
theorem w_X12_isFit : ∀ w ∈ [Cond.instanceMethod yX12_isFit, .selects yX12_isFit.cls yX12_isFit yX12_isFit, .initialized yX12_isFit.cls, .code yX12_isFit cX12_isFit 7 (some .boolean)], w ∈ lw_good := List.forall_mem_cons.mpr ⟨lw_good_of (tb_ok 1538 (by decide +kernel)) rfl, List.forall_mem_cons.mpr ⟨lw_good_of (ts_ok 64 (by decide +kernel)) rfl, List.forall_mem_cons.mpr ⟨lw_good_of (tb_ok 11 (by decide +kernel)) rfl, List.forall_mem_cons.mpr ⟨lw_good_of (tb_ok 1539 (by decide +kernel)) rfl, fun _ h => absurd h List.not_mem_nil⟩⟩⟩⟩
theorem n_X12_isFit_ok {R' : Type} {q : cL} {own : String} {d k : Nat} {f : Nat → Int32 → Int32 → cM → Option (Int32 × cM)} (hl : Cond.methodLink own k yX12_isFit ∈ lw_good) (hf : ∀ a0 a1 a2 M r, f a0 a1 a2 M = some r → CTx q yX12_isFit (.code yX12_isFit cX12_isFit 7 (some .boolean)) d [.ref a0, .int a1, .int a2] M (eI r) ∧ ∃ fs, M[a0]? = some (.inr (10, fs))) : ceS q own d (3 * k + 1) (n_X12_isFit (R' := R') f) := by
  intro as M κ κx r h
  unfold n_X12_isFit at h
  split at h
  · obtain ⟨p, h1, h2⟩ := Option.bind_eq_some_iff.mp h
    obtain ⟨hc, fs, ha⟩ := hf _ _ _ _ _ h1
    exact ⟨eI p, fun _ => h2, fun hne => absurd rfl hne, Or.inr (Or.inl ⟨yX12_isFit, cX12_isFit, 7, (some .boolean), k, 2, _, _, 10, TX12, 76, fs, rfl, rfl, hc, ha, rfl, List.forall_mem_cons.mpr ⟨hl, w_X12_isFit⟩, ⟨rfl, by decide +kernel, by decide +kernel, by decide +kernel⟩, rfl, by decide⟩)⟩
  · cases h
-- PatchbayScriptModel.learns(I)Z
def T_X12_learns : List cRow := [(0, .aload_n 0, 1, 0), (1, .getfield 110, 4, 0), (4, .iload_n 1, 5, 0), (5, .iaload, 6, 0), (6, .ifCond .ne 78, 9, 84), (9, .aload_n 0, 10, 0), (10, .iload_n 1, 11, 0), (11, .invokevirtual 376, 14, 0), (14, .iconst 0, 15, 0), (15, .istore_n 2, 16, 0), (16, .iload_n 2, 17, 0), (17, .aload_n 0, 18, 0), (18, .getfield 366, 21, 0), (21, .if_icmp .ge 24, 24, 45), (24, .aload_n 0, 25, 0), (25, .bipush 66, 27, 0), (27, .iload_n 2, 28, 0), (28, .iadd, 29, 0), (29, .aload_n 0, 30, 0), (30, .getfield 303, 33, 0), (33, .invokevirtual 379, 36, 0), (36, .ifCond .ne 9, 39, 45), (39, .iinc 2 1, 42, 0), (42, .goto (-26), 45, 16), (45, .aload_n 0, 46, 0), (46, .getfield 110, 49, 0), (49, .iload_n 1, 50, 0), (50, .iload_n 2, 51, 0), (51, .aload_n 0, 52, 0), (52, .getfield 366, 55, 0), (55, .if_icmp .ge 7, 58, 62), (58, .iconst 1, 59, 0), (59, .goto 4, 62, 63), (62, .iconst 2, 63, 0), (63, .iastore, 64, 0), (64, .iload_n 2, 65, 0), (65, .aload_n 0, 66, 0), (66, .getfield 366, 69, 0), (69, .if_icmp .ge 15, 72, 84), (72, .aload_n 0, 73, 0), (73, .bipush 66, 75, 0), (75, .iload_n 2, 76, 0), (76, .iadd, 77, 0), (77, .bipush 71, 79, 0), (79, .iload_n 1, 80, 0), (80, .iadd, 81, 0), (81, .invokevirtual 382, 84, 0), (84, .aload_n 0, 85, 0), (85, .getfield 110, 88, 0), (88, .iload_n 1, 89, 0), (89, .iaload, 90, 0), (90, .iconst 1, 91, 0), (91, .if_icmp .ne 7, 94, 98), (94, .iconst 1, 95, 0), (95, .goto 4, 98, 99), (98, .iconst 0, 99, 0), (99, .ireturn, 100, 0)]
theorem T_X12_learns_ok : T_X12_learns.all (rowB cX12_learns) = true := by decide +kernel
def th_X12_learns : List (Nat × Nat) := []
def sw_X12_learns : List (Nat × (List (Int32 × Nat) × Nat)) := []
theorem sw_X12_learns_ok : ∀ q ∈ sw_X12_learns, swS cX12_learns q := fun _ h => absurd h List.not_mem_nil
def na_X12_learns : List (Nat × Nat) := [(1129, 2), (1138, 3), (1147, 3)]
def ca_X12_learns {R' : Type} (F : Nat) : List (Nat × cFn R') := [(1129, n_X12_counts (f_X12_counts F)), (1138, n_X12_isFit (f_X12_isFit F)), (1147, n_X12_copies (f_X12_copies F))]
theorem ca_X12_learns_ok {R' : Type} {q : cL} (hst : q.1.stackTraces = false) {D : Nat} (hD : 6 ≤ D) (F : Nat) : ∀ x ∈ (ca_X12_learns (R' := R') F), 1 ≤ D ∧ ceS q RX12 (D - 1) x.1 x.2 := List.forall_mem_cons.mpr ⟨⟨by omega, n_X12_counts_ok (k := 376) (lw_good_of (tb_ok 1488 (by decide +kernel)) rfl) (fun a0 a1 M r h => c_X12_counts hst (by omega) F a0 a1 M r h)⟩, List.forall_mem_cons.mpr ⟨⟨by omega, n_X12_isFit_ok (k := 379) (lw_good_of (tb_ok 1536 (by decide +kernel)) rfl) (fun a0 a1 a2 M r h => c_X12_isFit hst (by omega) F a0 a1 a2 M r h)⟩, List.forall_mem_cons.mpr ⟨⟨by omega, n_X12_copies_ok (k := 382) (lw_good_of (tb_ok 1355 (by decide +kernel)) rfl) (fun a0 a1 a2 M r h => c_X12_copies hst (by omega) F a0 a1 a2 M r h)⟩, fun _ h => absurd h List.not_mem_nil⟩⟩⟩
def kd_X12_learns_16 (g : Nat → Int32 → Int32 → cM → Option (Int32 × cM)) : cKf (Int32 × cM) := fun vs st M => (lR vs 0).bind fun x0 => (lI vs 1).bind fun x1 => (lI vs 2).bind fun x2 => match st with
  | [] => g x0 x1 x2 M
  | _ => none
theorem kf_X12_learns_16 {X : cCtx} {o : cO} {r : Int32 × cM} {g : Nat → Int32 → Int32 → cM → Option (Int32 × cM)} (hg : ∀ x0 x1 x2 M, g x0 x1 x2 M = some r → WX X 3 o 16 [some (.ref x0), some (.int x1), some (.int x2)] [] M) : ∀ vs st M, kd_X12_learns_16 g vs st M = some r → WX X 3 o 16 vs st M := by
  intro vs st M h
  unfold kd_X12_learns_16 at h
  obtain ⟨x0, h0, h⟩ := Option.bind_eq_some_iff.mp h
  obtain ⟨x1, h1, h⟩ := Option.bind_eq_some_iff.mp h
  obtain ⟨x2, h2, h⟩ := Option.bind_eq_some_iff.mp h
  split at h
  · exact WX_weak (hg _ _ _ _ h) rfl ⟨lR_of h0, lI_of h1, lI_of h2, trivial⟩
  · cases h
def kd_X12_learns_45 (g : Nat → Int32 → Int32 → cM → Option (Int32 × cM)) : cKf (Int32 × cM) := fun vs st M => (lR vs 0).bind fun x0 => (lI vs 1).bind fun x1 => (lI vs 2).bind fun x2 => match st with
  | [] => g x0 x1 x2 M
  | _ => none
theorem kf_X12_learns_45 {X : cCtx} {o : cO} {r : Int32 × cM} {g : Nat → Int32 → Int32 → cM → Option (Int32 × cM)} (hg : ∀ x0 x1 x2 M, g x0 x1 x2 M = some r → WX X 3 o 45 [some (.ref x0), some (.int x1), some (.int x2)] [] M) : ∀ vs st M, kd_X12_learns_45 g vs st M = some r → WX X 3 o 45 vs st M := by
  intro vs st M h
  unfold kd_X12_learns_45 at h
  obtain ⟨x0, h0, h⟩ := Option.bind_eq_some_iff.mp h
  obtain ⟨x1, h1, h⟩ := Option.bind_eq_some_iff.mp h
  obtain ⟨x2, h2, h⟩ := Option.bind_eq_some_iff.mp h
  split at h
  · exact WX_weak (hg _ _ _ _ h) rfl ⟨lR_of h0, lI_of h1, lI_of h2, trivial⟩
  · cases h
def kd_X12_learns_63 (g : Nat → Int32 → Int32 → Nat → Int32 → Int32 → cM → Option (Int32 × cM)) : cKf (Int32 × cM) := fun vs st M => (lR vs 0).bind fun x0 => (lI vs 1).bind fun x1 => (lI vs 2).bind fun x2 => match st with
  | [.int s2, .int s1, .ref s0] => g x0 x1 x2 s0 s1 s2 M
  | _ => none
theorem kf_X12_learns_63 {X : cCtx} {o : cO} {r : Int32 × cM} {g : Nat → Int32 → Int32 → Nat → Int32 → Int32 → cM → Option (Int32 × cM)} (hg : ∀ x0 x1 x2 s0 s1 s2 M, g x0 x1 x2 s0 s1 s2 M = some r → WX X 3 o 63 [some (.ref x0), some (.int x1), some (.int x2)] [.int s2, .int s1, .ref s0] M) : ∀ vs st M, kd_X12_learns_63 g vs st M = some r → WX X 3 o 63 vs st M := by
  intro vs st M h
  unfold kd_X12_learns_63 at h
  obtain ⟨x0, h0, h⟩ := Option.bind_eq_some_iff.mp h
  obtain ⟨x1, h1, h⟩ := Option.bind_eq_some_iff.mp h
  obtain ⟨x2, h2, h⟩ := Option.bind_eq_some_iff.mp h
  split at h
  · exact WX_weak (hg _ _ _ _ _ _ _ h) rfl ⟨lR_of h0, lI_of h1, lI_of h2, trivial⟩
  · cases h
def kd_X12_learns_84 (g : Nat → Int32 → cM → Option (Int32 × cM)) : cKf (Int32 × cM) := fun vs st M => (lR vs 0).bind fun x0 => (lI vs 1).bind fun x1 => match st with
  | [] => g x0 x1 M
  | _ => none
theorem kf_X12_learns_84 {X : cCtx} {o : cO} {r : Int32 × cM} {g : Nat → Int32 → cM → Option (Int32 × cM)} (hg : ∀ x0 x1 M, g x0 x1 M = some r → WX X 3 o 84 [some (.ref x0), some (.int x1), none] [] M) : ∀ vs st M, kd_X12_learns_84 g vs st M = some r → WX X 3 o 84 vs st M := by
  intro vs st M h
  unfold kd_X12_learns_84 at h
  obtain ⟨x0, h0, h⟩ := Option.bind_eq_some_iff.mp h
  obtain ⟨x1, h1, h⟩ := Option.bind_eq_some_iff.mp h
  split at h
  · exact WX_weak (hg _ _ _ h) rfl ⟨lR_of h0, lI_of h1, trivial⟩
  · cases h
set_option maxRecDepth 20000 in
theorem e_X12_learns_84 (F : Nat) (x0 : Nat) (x1 : Int32) (M : cM) : b_X12_learns_84 F x0 x1 M = run T_X12_learns P_RX12 false 1 (naL na_X12_learns) (caL (ca_X12_learns F)) (lkN th_X12_learns) (lkN sw_X12_learns) krI kxN (spL []) (KL []) 60 84 [some (.ref x0), some (.int x1), none] [] M := rfl
theorem ok_X12_learns_84 {X : cCtx} {D : Nat} {r : Int32 × cM} (G : FX X 3 (eI r) cX12_learns RX12 1 D) {F : Nat} (hca : ∀ x ∈ (ca_X12_learns (R' := Int32 × cM) F), 1 ≤ D ∧ ceS X.1 RX12 (D - 1) x.1 x.2) : ∀ x0 x1 M, f_X12_learns_84 F x0 x1 M = some r → WX X 3 (eI r) 84 [some (.ref x0), some (.int x1), none] [] M := by
  intro x0 x1 M h
  exact seg_ok G P_RX12_ok T_X12_learns_ok hca (fun _ h => absurd h List.not_mem_nil) sw_X12_learns_ok krI_ok (kxN_ok (f := eI)) (fun _ h => absurd h List.not_mem_nil) ((e_X12_learns_84 F x0 x1 M).symm.trans h)
set_option maxRecDepth 20000 in
theorem e_X12_learns_63 (F : Nat) (t84 : Nat → Int32 → cM → Option (Int32 × cM)) (x0 : Nat) (x1 : Int32) (x2 : Int32) (s0 : Nat) (s1 : Int32) (s2 : Int32) (M : cM) : b_X12_learns_63 F t84 x0 x1 x2 s0 s1 s2 M = run T_X12_learns P_RX12 false 1 (naL na_X12_learns) (caL (ca_X12_learns F)) (lkN th_X12_learns) (lkN sw_X12_learns) krI kxN (spL [84]) (KL [(84, kd_X12_learns_84 t84)]) 60 63 [some (.ref x0), some (.int x1), some (.int x2)] [.int s2, .int s1, .ref s0] M := rfl
theorem ok_X12_learns_63 {X : cCtx} {D : Nat} {r : Int32 × cM} (G : FX X 3 (eI r) cX12_learns RX12 1 D) {F : Nat} (hca : ∀ x ∈ (ca_X12_learns (R' := Int32 × cM) F), 1 ≤ D ∧ ceS X.1 RX12 (D - 1) x.1 x.2) : ∀ x0 x1 x2 s0 s1 s2 M, f_X12_learns_63 F x0 x1 x2 s0 s1 s2 M = some r → WX X 3 (eI r) 63 [some (.ref x0), some (.int x1), some (.int x2)] [.int s2, .int s1, .ref s0] M := by
  intro x0 x1 x2 s0 s1 s2 M h
  exact seg_ok G P_RX12_ok T_X12_learns_ok hca (fun _ h => absurd h List.not_mem_nil) sw_X12_learns_ok krI_ok (kxN_ok (f := eI)) (List.forall_mem_cons.mpr ⟨kf_X12_learns_84 (ok_X12_learns_84 G hca), fun _ h => absurd h List.not_mem_nil⟩) ((e_X12_learns_63 F (f_X12_learns_84 F) x0 x1 x2 s0 s1 s2 M).symm.trans h)
set_option maxRecDepth 20000 in
theorem e_X12_learns_45 (F : Nat) (t63 : Nat → Int32 → Int32 → Nat → Int32 → Int32 → cM → Option (Int32 × cM)) (x0 : Nat) (x1 : Int32) (x2 : Int32) (M : cM) : b_X12_learns_45 F t63 x0 x1 x2 M = run T_X12_learns P_RX12 false 1 (naL na_X12_learns) (caL (ca_X12_learns F)) (lkN th_X12_learns) (lkN sw_X12_learns) krI kxN (spL [63]) (KL [(63, kd_X12_learns_63 t63)]) 60 45 [some (.ref x0), some (.int x1), some (.int x2)] [] M := rfl
theorem ok_X12_learns_45 {X : cCtx} {D : Nat} {r : Int32 × cM} (G : FX X 3 (eI r) cX12_learns RX12 1 D) {F : Nat} (hca : ∀ x ∈ (ca_X12_learns (R' := Int32 × cM) F), 1 ≤ D ∧ ceS X.1 RX12 (D - 1) x.1 x.2) : ∀ x0 x1 x2 M, f_X12_learns_45 F x0 x1 x2 M = some r → WX X 3 (eI r) 45 [some (.ref x0), some (.int x1), some (.int x2)] [] M := by
  intro x0 x1 x2 M h
  exact seg_ok G P_RX12_ok T_X12_learns_ok hca (fun _ h => absurd h List.not_mem_nil) sw_X12_learns_ok krI_ok (kxN_ok (f := eI)) (List.forall_mem_cons.mpr ⟨kf_X12_learns_63 (ok_X12_learns_63 G hca), fun _ h => absurd h List.not_mem_nil⟩) ((e_X12_learns_45 F (f_X12_learns_63 F) x0 x1 x2 M).symm.trans h)
set_option maxRecDepth 20000 in
theorem e_X12_learns_16 (F : Nat) (t16 : Nat → Int32 → Int32 → cM → Option (Int32 × cM)) (t45 : Nat → Int32 → Int32 → cM → Option (Int32 × cM)) (x0 : Nat) (x1 : Int32) (x2 : Int32) (M : cM) : b_X12_learns_16 F t16 t45 x0 x1 x2 M = run T_X12_learns P_RX12 false 1 (naL na_X12_learns) (caL (ca_X12_learns F)) (lkN th_X12_learns) (lkN sw_X12_learns) krI kxN (spL [16, 45]) (KL [(16, kd_X12_learns_16 t16), (45, kd_X12_learns_45 t45)]) 60 16 [some (.ref x0), some (.int x1), some (.int x2)] [] M := rfl
theorem ok_X12_learns_16 {X : cCtx} {D : Nat} {r : Int32 × cM} (G : FX X 3 (eI r) cX12_learns RX12 1 D) {F : Nat} (hca : ∀ x ∈ (ca_X12_learns (R' := Int32 × cM) F), 1 ≤ D ∧ ceS X.1 RX12 (D - 1) x.1 x.2) (n : Nat) : ∀ x0 x1 x2 M, f_X12_learns_16 F n x0 x1 x2 M = some r → WX X 3 (eI r) 16 [some (.ref x0), some (.int x1), some (.int x2)] [] M := by
  induction n with
  | zero => intro x0 x1 x2 M h; cases h
  | succ n ih =>
    intro x0 x1 x2 M h
    exact seg_ok G P_RX12_ok T_X12_learns_ok hca (fun _ h => absurd h List.not_mem_nil) sw_X12_learns_ok krI_ok (kxN_ok (f := eI)) (List.forall_mem_cons.mpr ⟨kf_X12_learns_16 (ih), List.forall_mem_cons.mpr ⟨kf_X12_learns_45 (ok_X12_learns_45 G hca), fun _ h => absurd h List.not_mem_nil⟩⟩) ((e_X12_learns_16 F (f_X12_learns_16 F n) (f_X12_learns_45 F) x0 x1 x2 M).symm.trans h)
set_option maxRecDepth 20000 in
theorem e_X12_learns_0 (F : Nat) (t16 : Nat → Int32 → Int32 → cM → Option (Int32 × cM)) (t84 : Nat → Int32 → cM → Option (Int32 × cM)) (x0 : Nat) (x1 : Int32) (M : cM) : b_X12_learns_0 F t16 t84 x0 x1 M = run T_X12_learns P_RX12 false 1 (naL na_X12_learns) (caL (ca_X12_learns F)) (lkN th_X12_learns) (lkN sw_X12_learns) krI kxN (spL [16, 84]) (KL [(16, kd_X12_learns_16 t16), (84, kd_X12_learns_84 t84)]) 60 0 [some (.ref x0), some (.int x1), none] [] M := rfl
theorem ok_X12_learns_0 {X : cCtx} {D : Nat} {r : Int32 × cM} (G : FX X 3 (eI r) cX12_learns RX12 1 D) {F : Nat} (hca : ∀ x ∈ (ca_X12_learns (R' := Int32 × cM) F), 1 ≤ D ∧ ceS X.1 RX12 (D - 1) x.1 x.2) : ∀ x0 x1 M, f_X12_learns_0 F x0 x1 M = some r → WX X 3 (eI r) 0 [some (.ref x0), some (.int x1), none] [] M := by
  intro x0 x1 M h
  exact seg_ok G P_RX12_ok T_X12_learns_ok hca (fun _ h => absurd h List.not_mem_nil) sw_X12_learns_ok krI_ok (kxN_ok (f := eI)) (List.forall_mem_cons.mpr ⟨kf_X12_learns_16 (ok_X12_learns_16 G hca F), List.forall_mem_cons.mpr ⟨kf_X12_learns_84 (ok_X12_learns_84 G hca), fun _ h => absurd h List.not_mem_nil⟩⟩) ((e_X12_learns_0 F (f_X12_learns_16 F F) (f_X12_learns_84 F) x0 x1 M).symm.trans h)
theorem c_X12_learns {q : cL} (hst : q.1.stackTraces = false) {D : Nat} (hD : 6 ≤ D) (F : Nat) (a0 : Nat) (a1 : Int32) (M : cM) (r : Int32 × cM) (h : f_X12_learns F a0 a1 M = some r) : CTx q yX12_learns (.code yX12_learns cX12_learns 3 (some .boolean)) D [.ref a0, .int a1] M (eI r) ∧ ∃ fs, M[a0]? = some (.inr (10, fs)) := by
  unfold f_X12_learns at h
  split at h
  · next hi => exact ⟨CTx_of (own := RX12) (rk := 1) hst (by decide +kernel) rfl (rfl) (Nat.le_of_ble_eq_true rfl) (fun X hX G => by subst hX; exact ok_X12_learns_0 G (ca_X12_learns_ok hst hD F) a0 a1 M h), isC_of hi⟩
  · cases h
def n_X12_learns {R' : Type} (f : Nat → Int32 → cM → Option (Int32 × cM)) : cFn R' := fun as M κ κx => match as with
  | [.ref a0, .int a1] => (f a0 a1 M).bind fun p => κ (some (.int p.1)) p.2
  | _ => none
theorem w_X12_learns : ∀ w ∈ [Cond.instanceMethod yX12_learns, .selects yX12_learns.cls yX12_learns yX12_learns, .initialized yX12_learns.cls, .code yX12_learns cX12_learns 3 (some .boolean)], w ∈ lw_good := List.forall_mem_cons.mpr ⟨lw_good_of (tb_ok 1486 (by decide +kernel)) rfl, List.forall_mem_cons.mpr ⟨lw_good_of (ts_ok 51 (by decide +kernel)) rfl, List.forall_mem_cons.mpr ⟨lw_good_of (tb_ok 11 (by decide +kernel)) rfl, List.forall_mem_cons.mpr ⟨lw_good_of (tb_ok 1487 (by decide +kernel)) rfl, fun _ h => absurd h List.not_mem_nil⟩⟩⟩⟩
theorem n_X12_learns_ok {R' : Type} {q : cL} {own : String} {d k : Nat} {f : Nat → Int32 → cM → Option (Int32 × cM)} (hl : Cond.methodLink own k yX12_learns ∈ lw_good) (hf : ∀ a0 a1 M r, f a0 a1 M = some r → CTx q yX12_learns (.code yX12_learns cX12_learns 3 (some .boolean)) d [.ref a0, .int a1] M (eI r) ∧ ∃ fs, M[a0]? = some (.inr (10, fs))) : ceS q own d (3 * k + 1) (n_X12_learns (R' := R') f) := by
  intro as M κ κx r h
  unfold n_X12_learns at h
  split at h
  · obtain ⟨p, h1, h2⟩ := Option.bind_eq_some_iff.mp h
    obtain ⟨hc, fs, ha⟩ := hf _ _ _ _ h1
    exact ⟨eI p, fun _ => h2, fun hne => absurd rfl hne, Or.inr (Or.inl ⟨yX12_learns, cX12_learns, 3, (some .boolean), k, 1, _, _, 10, TX12, 76, fs, rfl, rfl, hc, ha, rfl, List.forall_mem_cons.mpr ⟨hl, w_X12_learns⟩, ⟨rfl, by decide +kernel, by decide +kernel, by decide +kernel⟩, rfl, by decide⟩)⟩
  · cases h
-- PatchbayScriptModel.parts(II)I
def T_X12_parts : List cRow := [(0, .iconst 0, 1, 0), (1, .istore_n 3, 2, 0), (2, .iconst 0, 3, 0), (3, .istore 4, 5, 0), (5, .iload 4, 7, 0), (7, .aload_n 0, 8, 0), (8, .getfield 25, 11, 0), (11, .iload_n 1, 12, 0), (12, .iaload, 13, 0), (13, .if_icmp .ge 56, 16, 69), (16, .aload_n 0, 17, 0), (17, .aload_n 0, 18, 0), (18, .getfield 31, 21, 0), (21, .bipush 20, 23, 0), (23, .iconst 4, 24, 0), (24, .iload_n 1, 25, 0), (25, .imul, 26, 0), (26, .iload 4, 28, 0), (28, .iadd, 29, 0), (29, .imul, 30, 0), (30, .aload_n 0, 31, 0), (31, .getfield 34, 34, 0), (34, .iconst 4, 35, 0), (35, .iload_n 1, 36, 0), (36, .imul, 37, 0), (37, .iload 4, 39, 0), (39, .iadd, 40, 0), (40, .iaload, 41, 0), (41, .invokevirtual 259, 44, 0), (44, .iload_n 3, 45, 0), (45, .aload_n 0, 46, 0), (46, .iload_n 2, 47, 0), (47, .invokevirtual 253, 50, 0), (50, .ifCond .eq 10, 53, 60), (53, .iconst 1, 54, 0), (54, .iload 4, 56, 0), (56, .ishl, 57, 0), (57, .goto 4, 60, 61), (60, .iconst 0, 61, 0), (61, .ior, 62, 0), (62, .istore_n 3, 63, 0), (63, .iinc 4 1, 66, 0), (66, .goto (-61), 69, 5), (69, .iload_n 3, 70, 0), (70, .ireturn, 71, 0)]
theorem T_X12_parts_ok : T_X12_parts.all (rowB cX12_parts) = true := by decide +kernel
def th_X12_parts : List (Nat × Nat) := []
def sw_X12_parts : List (Nat × (List (Int32 × Nat) × Nat)) := []
theorem sw_X12_parts_ok : ∀ q ∈ sw_X12_parts, swS cX12_parts q := fun _ h => absurd h List.not_mem_nil
def na_X12_parts : List (Nat × Nat) := [(778, 4), (760, 2)]
def ca_X12_parts {R' : Type} (F : Nat) : List (Nat × cFn R') := [(778, n_X12_takes (f_X12_takes F)), (760, n_X12_holds (f_X12_holds F))]
theorem ca_X12_parts_ok {R' : Type} {q : cL} (hst : q.1.stackTraces = false) {D : Nat} (hD : 5 ≤ D) (F : Nat) : ∀ x ∈ (ca_X12_parts (R' := R') F), 1 ≤ D ∧ ceS q RX12 (D - 1) x.1 x.2 := List.forall_mem_cons.mpr ⟨⟨by omega, n_X12_takes_ok (k := 259) (lw_good_of (tb_ok 1367 (by decide +kernel)) rfl) (fun a0 a1 a2 a3 M r h => c_X12_takes hst (by omega) F a0 a1 a2 a3 M r h)⟩, List.forall_mem_cons.mpr ⟨⟨by omega, n_X12_holds_ok (k := 253) (lw_good_of (tb_ok 1382 (by decide +kernel)) rfl) (fun a0 a1 M r h => c_X12_holds hst (by omega) F a0 a1 M r h)⟩, fun _ h => absurd h List.not_mem_nil⟩⟩
def kd_X12_parts_5 (g : Nat → Int32 → Int32 → Int32 → Int32 → cM → Option (Int32 × cM)) : cKf (Int32 × cM) := fun vs st M => (lR vs 0).bind fun x0 => (lI vs 1).bind fun x1 => (lI vs 2).bind fun x2 => (lI vs 3).bind fun x3 => (lI vs 4).bind fun x4 => match st with
  | [] => g x0 x1 x2 x3 x4 M
  | _ => none
theorem kf_X12_parts_5 {X : cCtx} {o : cO} {r : Int32 × cM} {g : Nat → Int32 → Int32 → Int32 → Int32 → cM → Option (Int32 × cM)} (hg : ∀ x0 x1 x2 x3 x4 M, g x0 x1 x2 x3 x4 M = some r → WX X 5 o 5 [some (.ref x0), some (.int x1), some (.int x2), some (.int x3), some (.int x4)] [] M) : ∀ vs st M, kd_X12_parts_5 g vs st M = some r → WX X 5 o 5 vs st M := by
  intro vs st M h
  unfold kd_X12_parts_5 at h
  obtain ⟨x0, h0, h⟩ := Option.bind_eq_some_iff.mp h
  obtain ⟨x1, h1, h⟩ := Option.bind_eq_some_iff.mp h
  obtain ⟨x2, h2, h⟩ := Option.bind_eq_some_iff.mp h
  obtain ⟨x3, h3, h⟩ := Option.bind_eq_some_iff.mp h
  obtain ⟨x4, h4, h⟩ := Option.bind_eq_some_iff.mp h
  split at h
  · exact WX_weak (hg _ _ _ _ _ _ h) rfl ⟨lR_of h0, lI_of h1, lI_of h2, lI_of h3, lI_of h4, trivial⟩
  · cases h
set_option maxRecDepth 20000 in
theorem e_X12_parts_5 (F : Nat) (t5 : Nat → Int32 → Int32 → Int32 → Int32 → cM → Option (Int32 × cM)) (x0 : Nat) (x1 : Int32) (x2 : Int32) (x3 : Int32) (x4 : Int32) (M : cM) : b_X12_parts_5 F t5 x0 x1 x2 x3 x4 M = run T_X12_parts P_RX12 false 0 (naL na_X12_parts) (caL (ca_X12_parts F)) (lkN th_X12_parts) (lkN sw_X12_parts) krI kxN (spL [5]) (KL [(5, kd_X12_parts_5 t5)]) 48 5 [some (.ref x0), some (.int x1), some (.int x2), some (.int x3), some (.int x4)] [] M := rfl
theorem ok_X12_parts_5 {X : cCtx} {D : Nat} {r : Int32 × cM} (G : FX X 5 (eI r) cX12_parts RX12 0 D) {F : Nat} (hca : ∀ x ∈ (ca_X12_parts (R' := Int32 × cM) F), 1 ≤ D ∧ ceS X.1 RX12 (D - 1) x.1 x.2) (n : Nat) : ∀ x0 x1 x2 x3 x4 M, f_X12_parts_5 F n x0 x1 x2 x3 x4 M = some r → WX X 5 (eI r) 5 [some (.ref x0), some (.int x1), some (.int x2), some (.int x3), some (.int x4)] [] M := by
  induction n with
  | zero => intro x0 x1 x2 x3 x4 M h; cases h
  | succ n ih =>
    intro x0 x1 x2 x3 x4 M h
    exact seg_ok G P_RX12_ok T_X12_parts_ok hca (fun _ h => absurd h List.not_mem_nil) sw_X12_parts_ok krI_ok (kxN_ok (f := eI)) (List.forall_mem_cons.mpr ⟨kf_X12_parts_5 (ih), fun _ h => absurd h List.not_mem_nil⟩) ((e_X12_parts_5 F (f_X12_parts_5 F n) x0 x1 x2 x3 x4 M).symm.trans h)
set_option maxRecDepth 20000 in
theorem e_X12_parts_0 (F : Nat) (t5 : Nat → Int32 → Int32 → Int32 → Int32 → cM → Option (Int32 × cM)) (x0 : Nat) (x1 : Int32) (x2 : Int32) (M : cM) : b_X12_parts_0 F t5 x0 x1 x2 M = run T_X12_parts P_RX12 false 0 (naL na_X12_parts) (caL (ca_X12_parts F)) (lkN th_X12_parts) (lkN sw_X12_parts) krI kxN (spL [5]) (KL [(5, kd_X12_parts_5 t5)]) 48 0 [some (.ref x0), some (.int x1), some (.int x2), none, none] [] M := rfl
theorem ok_X12_parts_0 {X : cCtx} {D : Nat} {r : Int32 × cM} (G : FX X 5 (eI r) cX12_parts RX12 0 D) {F : Nat} (hca : ∀ x ∈ (ca_X12_parts (R' := Int32 × cM) F), 1 ≤ D ∧ ceS X.1 RX12 (D - 1) x.1 x.2) : ∀ x0 x1 x2 M, f_X12_parts_0 F x0 x1 x2 M = some r → WX X 5 (eI r) 0 [some (.ref x0), some (.int x1), some (.int x2), none, none] [] M := by
  intro x0 x1 x2 M h
  exact seg_ok G P_RX12_ok T_X12_parts_ok hca (fun _ h => absurd h List.not_mem_nil) sw_X12_parts_ok krI_ok (kxN_ok (f := eI)) (List.forall_mem_cons.mpr ⟨kf_X12_parts_5 (ok_X12_parts_5 G hca F), fun _ h => absurd h List.not_mem_nil⟩) ((e_X12_parts_0 F (f_X12_parts_5 F F) x0 x1 x2 M).symm.trans h)
theorem c_X12_parts {q : cL} (hst : q.1.stackTraces = false) {D : Nat} (hD : 5 ≤ D) (F : Nat) (a0 : Nat) (a1 : Int32) (a2 : Int32) (M : cM) (r : Int32 × cM) (h : f_X12_parts F a0 a1 a2 M = some r) : CTx q yX12_parts (.code yX12_parts cX12_parts 5 (some .int)) D [.ref a0, .int a1, .int a2] M (eI r) ∧ ∃ fs, M[a0]? = some (.inr (10, fs)) := by
  unfold f_X12_parts at h
  split at h
  · next hi => exact ⟨CTx_of (own := RX12) (rk := 0) hst (by decide +kernel) rfl (rfl) (Nat.le_of_ble_eq_true rfl) (fun X hX G => by subst hX; exact ok_X12_parts_0 G (ca_X12_parts_ok hst hD F) a0 a1 a2 M h), isC_of hi⟩
  · cases h
def n_X12_parts {R' : Type} (f : Nat → Int32 → Int32 → cM → Option (Int32 × cM)) : cFn R' := fun as M κ κx => match as with
  | [.ref a0, .int a1, .int a2] => (f a0 a1 a2 M).bind fun p => κ (some (.int p.1)) p.2
  | _ => none
theorem w_X12_parts : ∀ w ∈ [Cond.instanceMethod yX12_parts, .selects yX12_parts.cls yX12_parts yX12_parts, .initialized yX12_parts.cls, .code yX12_parts cX12_parts 5 (some .int)], w ∈ lw_good := List.forall_mem_cons.mpr ⟨lw_good_of (tb_ok 1542 (by decide +kernel)) rfl, List.forall_mem_cons.mpr ⟨lw_good_of (ts_ok 65 (by decide +kernel)) rfl, List.forall_mem_cons.mpr ⟨lw_good_of (tb_ok 11 (by decide +kernel)) rfl, List.forall_mem_cons.mpr ⟨lw_good_of (tb_ok 1543 (by decide +kernel)) rfl, fun _ h => absurd h List.not_mem_nil⟩⟩⟩⟩
theorem n_X12_parts_ok {R' : Type} {q : cL} {own : String} {d k : Nat} {f : Nat → Int32 → Int32 → cM → Option (Int32 × cM)} (hl : Cond.methodLink own k yX12_parts ∈ lw_good) (hf : ∀ a0 a1 a2 M r, f a0 a1 a2 M = some r → CTx q yX12_parts (.code yX12_parts cX12_parts 5 (some .int)) d [.ref a0, .int a1, .int a2] M (eI r) ∧ ∃ fs, M[a0]? = some (.inr (10, fs))) : ceS q own d (3 * k + 1) (n_X12_parts (R' := R') f) := by
  intro as M κ κx r h
  unfold n_X12_parts at h
  split at h
  · obtain ⟨p, h1, h2⟩ := Option.bind_eq_some_iff.mp h
    obtain ⟨hc, fs, ha⟩ := hf _ _ _ _ _ h1
    exact ⟨eI p, fun _ => h2, fun hne => absurd rfl hne, Or.inr (Or.inl ⟨yX12_parts, cX12_parts, 5, (some .int), k, 2, _, _, 10, TX12, 76, fs, rfl, rfl, hc, ha, rfl, List.forall_mem_cons.mpr ⟨hl, w_X12_parts⟩, ⟨rfl, by decide +kernel, by decide +kernel, by decide +kernel⟩, rfl, by decide⟩)⟩
  · cases h
-- PatchbayScriptModel.learn(I)I
def T_X12_learn : List cRow := [(0, .aload_n 0, 1, 0), (1, .iload_n 1, 2, 0), (2, .invokestatic 287, 5, 0), (5, .ifCond .ne 7, 8, 12), (8, .iconst 1, 9, 0), (9, .goto 17, 12, 26), (12, .aload_n 0, 13, 0), (13, .getfield 25, 16, 0), (16, .iload_n 1, 17, 0), (17, .iaload, 18, 0), (18, .ifCond .ne 7, 21, 25), (21, .iconst 2, 22, 0), (22, .goto 4, 25, 26), (25, .iconst 0, 26, 0), (26, .putfield 196, 29, 0), (29, .aload_n 0, 30, 0), (30, .getfield 196, 33, 0), (33, .ifCond .le 5, 36, 38), (36, .iconst 0, 37, 0), (37, .ireturn, 38, 0), (38, .iconst 1, 39, 0), (39, .aload_n 0, 40, 0), (40, .getfield 25, 43, 0), (43, .iload_n 1, 44, 0), (44, .iaload, 45, 0), (45, .ishl, 46, 0), (46, .iconst 1, 47, 0), (47, .isub, 48, 0), (48, .istore_n 2, 49, 0), (49, .iconst 0, 50, 0), (50, .istore_n 3, 51, 0), (51, .iload_n 3, 52, 0), (52, .bipush 16, 54, 0), (54, .if_icmp .ge 16, 57, 70), (57, .aload_n 0, 58, 0), (58, .getfield 110, 61, 0), (61, .iload_n 3, 62, 0), (62, .iconst 0, 63, 0), (63, .iastore, 64, 0), (64, .iinc 3 1, 67, 0), (67, .goto (-16), 70, 51), (70, .aload_n 0, 71, 0), (71, .iload_n 1, 72, 0), (72, .invokevirtual 385, 75, 0), (75, .aload_n 0, 76, 0), (76, .getfield 73, 79, 0), (79, .iload_n 1, 80, 0), (80, .aload_n 0, 81, 0), (81, .iload_n 2, 82, 0), (82, .invokevirtual 388, 85, 0), (85, .bastore, 86, 0), (86, .aload_n 0, 87, 0), (87, .getfield 77, 90, 0), (90, .iload_n 1, 91, 0), (91, .iconst (-1), 92, 0), (92, .iastore, 93, 0), (93, .aload_n 0, 94, 0), (94, .getfield 73, 97, 0), (97, .iload_n 1, 98, 0), (98, .baload, 99, 0), (99, .ifCond .eq 23, 102, 122), (102, .aload_n 0, 103, 0), (103, .bipush 71, 105, 0), (105, .iload_n 2, 106, 0), (106, .iadd, 107, 0), (107, .iconst 2, 108, 0), (108, .iload_n 1, 109, 0), (109, .imul, 110, 0), (110, .invokevirtual 382, 113, 0), (113, .aload_n 0, 114, 0), (114, .getfield 92, 117, 0), (117, .iconst 2, 118, 0), (118, .iload_n 1, 119, 0), (119, .imul, 120, 0), (120, .iaload, 121, 0), (121, .ireturn, 122, 0), (122, .iconst (-1), 123, 0), (123, .istore_n 3, 124, 0), (124, .iconst 0, 125, 0), (125, .istore 4, 127, 0), (127, .iload 4, 129, 0), (129, .bipush 20, 131, 0), (131, .if_icmp .gt 124, 134, 255), (134, .aload_n 0, 135, 0), (135, .iload_n 1, 136, 0), (136, .iload 4, 138, 0), (138, .invokevirtual 391, 141, 0), (141, .istore 5, 143, 0), (143, .iload 5, 145, 0), (145, .ifCond .eq 104, 148, 249), (148, .iload 5, 150, 0), (150, .iload_n 2, 151, 0), (151, .if_icmp .eq 98, 154, 249), (154, .aload_n 0, 155, 0), (155, .iload 5, 157, 0), (157, .invokevirtual 388, 160, 0), (160, .ifCond .eq 89, 163, 249), (163, .aload_n 0, 164, 0), (164, .iload_n 2, 165, 0), (165, .iload 5, 167, 0), (167, .isub, 168, 0), (168, .invokevirtual 388, 171, 0), (171, .ifCond .eq 78, 174, 249), (174, .aload_n 0, 175, 0), (175, .getfield 92, 178, 0), (178, .bipush 71, 180, 0), (180, .iload 5, 182, 0), (182, .iadd, 183, 0), (183, .iaload, 184, 0), (184, .aload_n 0, 185, 0), (185, .getfield 92, 188, 0), (188, .bipush 71, 190, 0), (190, .iload_n 2, 191, 0), (191, .iadd, 192, 0), (192, .iload 5, 194, 0), (194, .isub, 195, 0), (195, .iaload, 196, 0), (196, .iadd, 197, 0), (197, .istore 6, 199, 0), (199, .iload_n 3, 200, 0), (200, .iconst (-1), 201, 0), (201, .if_icmp .eq 9, 204, 210), (204, .iload 6, 206, 0), (206, .iload_n 3, 207, 0), (207, .if_icmp .ge 42, 210, 249), (210, .iload 6, 212, 0), (212, .istore_n 3, 213, 0), (213, .aload_n 0, 214, 0), (214, .getfield 77, 217, 0), (217, .iload_n 1, 218, 0), (218, .iload 4, 220, 0), (220, .iastore, 221, 0), (221, .aload_n 0, 222, 0), (222, .bipush 71, 224, 0), (224, .iload 5, 226, 0), (226, .iadd, 227, 0), (227, .iconst 2, 228, 0), (228, .iload_n 1, 229, 0), (229, .imul, 230, 0), (230, .invokevirtual 382, 233, 0), (233, .aload_n 0, 234, 0), (234, .bipush 71, 236, 0), (236, .iload_n 2, 237, 0), (237, .iadd, 238, 0), (238, .iload 5, 240, 0), (240, .isub, 241, 0), (241, .iconst 2, 242, 0), (242, .iload_n 1, 243, 0), (243, .imul, 244, 0), (244, .iconst 1, 245, 0), (245, .iadd, 246, 0), (246, .invokevirtual 382, 249, 0), (249, .iinc 4 1, 252, 0), (252, .goto (-125), 255, 127), (255, .aload_n 0, 256, 0), (256, .getfield 73, 259, 0), (259, .iload_n 1, 260, 0), (260, .iload_n 3, 261, 0), (261, .iconst (-1), 262, 0), (262, .if_icmp .eq 7, 265, 269), (265, .iconst 1, 266, 0), (266, .goto 4, 269, 270), (269, .iconst 0, 270, 0), (270, .bastore, 271, 0), (271, .aload_n 0, 272, 0), (272, .getfield 80, 275, 0), (275, .iload_n 1, 276, 0), (276, .aload_n 0, 277, 0), (277, .getfield 80, 280, 0), (280, .iload_n 1, 281, 0), (281, .baload, 282, 0), (282, .ifCond .eq 16, 285, 298), (285, .aload_n 0, 286, 0), (286, .getfield 73, 289, 0), (289, .iload_n 1, 290, 0), (290, .baload, 291, 0), (291, .ifCond .eq 7, 294, 298), (294, .iconst 1, 295, 0), (295, .goto 4, 298, 299), (298, .iconst 0, 299, 0), (299, .bastore, 300, 0), (300, .iload_n 3, 301, 0), (301, .ireturn, 302, 0)]
theorem T_X12_learn_ok : T_X12_learn.all (rowB cX12_learn) = true := by decide +kernel
def th_X12_learn : List (Nat × Nat) := []
def sw_X12_learn : List (Nat × (List (Int32 × Nat) × Nat)) := []
theorem sw_X12_learn_ok : ∀ q ∈ sw_X12_learn, swS cX12_learn q := fun _ h => absurd h List.not_mem_nil
def na_X12_learn : List (Nat × Nat) := [(861, 1), (1156, 2), (1165, 2), (1147, 3), (1174, 3)]
def ca_X12_learn {R' : Type} (F : Nat) : List (Nat × cFn R') := [(861, n_X12_isTask (f_X12_isTask F)), (1156, n_X12_gathers (f_X12_gathers F)), (1165, n_X12_learns (f_X12_learns F)), (1147, n_X12_copies (f_X12_copies F)), (1174, n_X12_parts (f_X12_parts F))]
theorem ca_X12_learn_ok {R' : Type} {q : cL} (hst : q.1.stackTraces = false) {D : Nat} (hD : 7 ≤ D) (F : Nat) : ∀ x ∈ (ca_X12_learn (R' := R') F), 1 ≤ D ∧ ceS q RX12 (D - 1) x.1 x.2 := List.forall_mem_cons.mpr ⟨⟨by omega, n_X12_isTask_ok (k := 287) (lw_good_of (tb_ok 1435 (by decide +kernel)) rfl) (fun a0 M r h => c_X12_isTask hst (by omega) F a0 M r h)⟩, List.forall_mem_cons.mpr ⟨⟨by omega, n_X12_gathers_ok (k := 385) (lw_good_of (tb_ok 1458 (by decide +kernel)) rfl) (fun a0 a1 M r h => c_X12_gathers hst (by omega) F a0 a1 M r h)⟩, List.forall_mem_cons.mpr ⟨⟨by omega, n_X12_learns_ok (k := 388) (lw_good_of (tb_ok 1484 (by decide +kernel)) rfl) (fun a0 a1 M r h => c_X12_learns hst (by omega) F a0 a1 M r h)⟩, List.forall_mem_cons.mpr ⟨⟨by omega, n_X12_copies_ok (k := 382) (lw_good_of (tb_ok 1355 (by decide +kernel)) rfl) (fun a0 a1 a2 M r h => c_X12_copies hst (by omega) F a0 a1 a2 M r h)⟩, List.forall_mem_cons.mpr ⟨⟨by omega, n_X12_parts_ok (k := 391) (lw_good_of (tb_ok 1540 (by decide +kernel)) rfl) (fun a0 a1 a2 M r h => c_X12_parts hst (by omega) F a0 a1 a2 M r h)⟩, fun _ h => absurd h List.not_mem_nil⟩⟩⟩⟩⟩
def kd_X12_learn_26 (g : Nat → Int32 → Nat → Int32 → cM → Option (Int32 × cM)) : cKf (Int32 × cM) := fun vs st M => (lR vs 0).bind fun x0 => (lI vs 1).bind fun x1 => match st with
  | [.int s1, .ref s0] => g x0 x1 s0 s1 M
  | _ => none
theorem kf_X12_learn_26 {X : cCtx} {o : cO} {r : Int32 × cM} {g : Nat → Int32 → Nat → Int32 → cM → Option (Int32 × cM)} (hg : ∀ x0 x1 s0 s1 M, g x0 x1 s0 s1 M = some r → WX X 7 o 26 [some (.ref x0), some (.int x1), none, none, none, none, none] [.int s1, .ref s0] M) : ∀ vs st M, kd_X12_learn_26 g vs st M = some r → WX X 7 o 26 vs st M := by
  intro vs st M h
  unfold kd_X12_learn_26 at h
  obtain ⟨x0, h0, h⟩ := Option.bind_eq_some_iff.mp h
  obtain ⟨x1, h1, h⟩ := Option.bind_eq_some_iff.mp h
  split at h
  · exact WX_weak (hg _ _ _ _ _ h) rfl ⟨lR_of h0, lI_of h1, trivial⟩
  · cases h
def kd_X12_learn_51 (g : Nat → Int32 → Int32 → Int32 → cM → Option (Int32 × cM)) : cKf (Int32 × cM) := fun vs st M => (lR vs 0).bind fun x0 => (lI vs 1).bind fun x1 => (lI vs 2).bind fun x2 => (lI vs 3).bind fun x3 => match st with
  | [] => g x0 x1 x2 x3 M
  | _ => none
theorem kf_X12_learn_51 {X : cCtx} {o : cO} {r : Int32 × cM} {g : Nat → Int32 → Int32 → Int32 → cM → Option (Int32 × cM)} (hg : ∀ x0 x1 x2 x3 M, g x0 x1 x2 x3 M = some r → WX X 7 o 51 [some (.ref x0), some (.int x1), some (.int x2), some (.int x3), none, none, none] [] M) : ∀ vs st M, kd_X12_learn_51 g vs st M = some r → WX X 7 o 51 vs st M := by
  intro vs st M h
  unfold kd_X12_learn_51 at h
  obtain ⟨x0, h0, h⟩ := Option.bind_eq_some_iff.mp h
  obtain ⟨x1, h1, h⟩ := Option.bind_eq_some_iff.mp h
  obtain ⟨x2, h2, h⟩ := Option.bind_eq_some_iff.mp h
  obtain ⟨x3, h3, h⟩ := Option.bind_eq_some_iff.mp h
  split at h
  · exact WX_weak (hg _ _ _ _ _ h) rfl ⟨lR_of h0, lI_of h1, lI_of h2, lI_of h3, trivial⟩
  · cases h
def kd_X12_learn_127 (g : Nat → Int32 → Int32 → Int32 → Int32 → cM → Option (Int32 × cM)) : cKf (Int32 × cM) := fun vs st M => (lR vs 0).bind fun x0 => (lI vs 1).bind fun x1 => (lI vs 2).bind fun x2 => (lI vs 3).bind fun x3 => (lI vs 4).bind fun x4 => match st with
  | [] => g x0 x1 x2 x3 x4 M
  | _ => none
theorem kf_X12_learn_127 {X : cCtx} {o : cO} {r : Int32 × cM} {g : Nat → Int32 → Int32 → Int32 → Int32 → cM → Option (Int32 × cM)} (hg : ∀ x0 x1 x2 x3 x4 M, g x0 x1 x2 x3 x4 M = some r → WX X 7 o 127 [some (.ref x0), some (.int x1), some (.int x2), some (.int x3), some (.int x4), none, none] [] M) : ∀ vs st M, kd_X12_learn_127 g vs st M = some r → WX X 7 o 127 vs st M := by
  intro vs st M h
  unfold kd_X12_learn_127 at h
  obtain ⟨x0, h0, h⟩ := Option.bind_eq_some_iff.mp h
  obtain ⟨x1, h1, h⟩ := Option.bind_eq_some_iff.mp h
  obtain ⟨x2, h2, h⟩ := Option.bind_eq_some_iff.mp h
  obtain ⟨x3, h3, h⟩ := Option.bind_eq_some_iff.mp h
  obtain ⟨x4, h4, h⟩ := Option.bind_eq_some_iff.mp h
  split at h
  · exact WX_weak (hg _ _ _ _ _ _ h) rfl ⟨lR_of h0, lI_of h1, lI_of h2, lI_of h3, lI_of h4, trivial⟩
  · cases h
def kd_X12_learn_174 (g : Nat → Int32 → Int32 → Int32 → Int32 → Int32 → cM → Option (Int32 × cM)) : cKf (Int32 × cM) := fun vs st M => (lR vs 0).bind fun x0 => (lI vs 1).bind fun x1 => (lI vs 2).bind fun x2 => (lI vs 3).bind fun x3 => (lI vs 4).bind fun x4 => (lI vs 5).bind fun x5 => match st with
  | [] => g x0 x1 x2 x3 x4 x5 M
  | _ => none
theorem kf_X12_learn_174 {X : cCtx} {o : cO} {r : Int32 × cM} {g : Nat → Int32 → Int32 → Int32 → Int32 → Int32 → cM → Option (Int32 × cM)} (hg : ∀ x0 x1 x2 x3 x4 x5 M, g x0 x1 x2 x3 x4 x5 M = some r → WX X 7 o 174 [some (.ref x0), some (.int x1), some (.int x2), some (.int x3), some (.int x4), some (.int x5), none] [] M) : ∀ vs st M, kd_X12_learn_174 g vs st M = some r → WX X 7 o 174 vs st M := by
  intro vs st M h
  unfold kd_X12_learn_174 at h
  obtain ⟨x0, h0, h⟩ := Option.bind_eq_some_iff.mp h
  obtain ⟨x1, h1, h⟩ := Option.bind_eq_some_iff.mp h
  obtain ⟨x2, h2, h⟩ := Option.bind_eq_some_iff.mp h
  obtain ⟨x3, h3, h⟩ := Option.bind_eq_some_iff.mp h
  obtain ⟨x4, h4, h⟩ := Option.bind_eq_some_iff.mp h
  obtain ⟨x5, h5, h⟩ := Option.bind_eq_some_iff.mp h
  split at h
  · exact WX_weak (hg _ _ _ _ _ _ _ h) rfl ⟨lR_of h0, lI_of h1, lI_of h2, lI_of h3, lI_of h4, lI_of h5, trivial⟩
  · cases h
def kd_X12_learn_210 (g : Nat → Int32 → Int32 → Int32 → Int32 → Int32 → cM → Option (Int32 × cM)) : cKf (Int32 × cM) := fun vs st M => (lR vs 0).bind fun x0 => (lI vs 1).bind fun x1 => (lI vs 2).bind fun x2 => (lI vs 4).bind fun x4 => (lI vs 5).bind fun x5 => (lI vs 6).bind fun x6 => match st with
  | [] => g x0 x1 x2 x4 x5 x6 M
  | _ => none
theorem kf_X12_learn_210 {X : cCtx} {o : cO} {r : Int32 × cM} {g : Nat → Int32 → Int32 → Int32 → Int32 → Int32 → cM → Option (Int32 × cM)} (hg : ∀ x0 x1 x2 x4 x5 x6 M, g x0 x1 x2 x4 x5 x6 M = some r → WX X 7 o 210 [some (.ref x0), some (.int x1), some (.int x2), none, some (.int x4), some (.int x5), some (.int x6)] [] M) : ∀ vs st M, kd_X12_learn_210 g vs st M = some r → WX X 7 o 210 vs st M := by
  intro vs st M h
  unfold kd_X12_learn_210 at h
  obtain ⟨x0, h0, h⟩ := Option.bind_eq_some_iff.mp h
  obtain ⟨x1, h1, h⟩ := Option.bind_eq_some_iff.mp h
  obtain ⟨x2, h2, h⟩ := Option.bind_eq_some_iff.mp h
  obtain ⟨x4, h4, h⟩ := Option.bind_eq_some_iff.mp h
  obtain ⟨x5, h5, h⟩ := Option.bind_eq_some_iff.mp h
  obtain ⟨x6, h6, h⟩ := Option.bind_eq_some_iff.mp h
  split at h
  · exact WX_weak (hg _ _ _ _ _ _ _ h) rfl ⟨lR_of h0, lI_of h1, lI_of h2, lI_of h4, lI_of h5, lI_of h6, trivial⟩
  · cases h
def kd_X12_learn_270 (g : Nat → Int32 → Int32 → Nat → Int32 → Int32 → cM → Option (Int32 × cM)) : cKf (Int32 × cM) := fun vs st M => (lR vs 0).bind fun x0 => (lI vs 1).bind fun x1 => (lI vs 3).bind fun x3 => match st with
  | [.int s2, .int s1, .ref s0] => g x0 x1 x3 s0 s1 s2 M
  | _ => none
theorem kf_X12_learn_270 {X : cCtx} {o : cO} {r : Int32 × cM} {g : Nat → Int32 → Int32 → Nat → Int32 → Int32 → cM → Option (Int32 × cM)} (hg : ∀ x0 x1 x3 s0 s1 s2 M, g x0 x1 x3 s0 s1 s2 M = some r → WX X 7 o 270 [some (.ref x0), some (.int x1), none, some (.int x3), none, none, none] [.int s2, .int s1, .ref s0] M) : ∀ vs st M, kd_X12_learn_270 g vs st M = some r → WX X 7 o 270 vs st M := by
  intro vs st M h
  unfold kd_X12_learn_270 at h
  obtain ⟨x0, h0, h⟩ := Option.bind_eq_some_iff.mp h
  obtain ⟨x1, h1, h⟩ := Option.bind_eq_some_iff.mp h
  obtain ⟨x3, h3, h⟩ := Option.bind_eq_some_iff.mp h
  split at h
  · exact WX_weak (hg _ _ _ _ _ _ _ h) rfl ⟨lR_of h0, lI_of h1, lI_of h3, trivial⟩
  · cases h
set_option maxRecDepth 20000 in
theorem e_X12_learn_270 (F : Nat) (x0 : Nat) (x1 : Int32) (x3 : Int32) (s0 : Nat) (s1 : Int32) (s2 : Int32) (M : cM) : b_X12_learn_270 F x0 x1 x3 s0 s1 s2 M = run T_X12_learn P_RX12 false 0 (naL na_X12_learn) (caL (ca_X12_learn F)) (lkN th_X12_learn) (lkN sw_X12_learn) krI kxN (spL []) (KL []) 186 270 [some (.ref x0), some (.int x1), none, some (.int x3), none, none, none] [.int s2, .int s1, .ref s0] M := rfl
theorem ok_X12_learn_270 {X : cCtx} {D : Nat} {r : Int32 × cM} (G : FX X 7 (eI r) cX12_learn RX12 0 D) {F : Nat} (hca : ∀ x ∈ (ca_X12_learn (R' := Int32 × cM) F), 1 ≤ D ∧ ceS X.1 RX12 (D - 1) x.1 x.2) : ∀ x0 x1 x3 s0 s1 s2 M, f_X12_learn_270 F x0 x1 x3 s0 s1 s2 M = some r → WX X 7 (eI r) 270 [some (.ref x0), some (.int x1), none, some (.int x3), none, none, none] [.int s2, .int s1, .ref s0] M := by
  intro x0 x1 x3 s0 s1 s2 M h
  exact seg_ok G P_RX12_ok T_X12_learn_ok hca (fun _ h => absurd h List.not_mem_nil) sw_X12_learn_ok krI_ok (kxN_ok (f := eI)) (fun _ h => absurd h List.not_mem_nil) ((e_X12_learn_270 F x0 x1 x3 s0 s1 s2 M).symm.trans h)
set_option maxRecDepth 20000 in
theorem e_X12_learn_210 (F : Nat) (t127 : Nat → Int32 → Int32 → Int32 → Int32 → cM → Option (Int32 × cM)) (x0 : Nat) (x1 : Int32) (x2 : Int32) (x4 : Int32) (x5 : Int32) (x6 : Int32) (M : cM) : b_X12_learn_210 F t127 x0 x1 x2 x4 x5 x6 M = run T_X12_learn P_RX12 false 0 (naL na_X12_learn) (caL (ca_X12_learn F)) (lkN th_X12_learn) (lkN sw_X12_learn) krI kxN (spL [127]) (KL [(127, kd_X12_learn_127 t127)]) 186 210 [some (.ref x0), some (.int x1), some (.int x2), none, some (.int x4), some (.int x5), some (.int x6)] [] M := rfl
theorem ok_X12_learn_210 {X : cCtx} {D : Nat} {r : Int32 × cM} (G : FX X 7 (eI r) cX12_learn RX12 0 D) {F : Nat} (hca : ∀ x ∈ (ca_X12_learn (R' := Int32 × cM) F), 1 ≤ D ∧ ceS X.1 RX12 (D - 1) x.1 x.2) (k127 : Nat → Int32 → Int32 → Int32 → Int32 → cM → Option (Int32 × cM)) (hk127 : ∀ x0 x1 x2 x3 x4 M, k127 x0 x1 x2 x3 x4 M = some r → WX X 7 (eI r) 127 [some (.ref x0), some (.int x1), some (.int x2), some (.int x3), some (.int x4), none, none] [] M) : ∀ x0 x1 x2 x4 x5 x6 M, f_X12_learn_210 F k127 x0 x1 x2 x4 x5 x6 M = some r → WX X 7 (eI r) 210 [some (.ref x0), some (.int x1), some (.int x2), none, some (.int x4), some (.int x5), some (.int x6)] [] M := by
  intro x0 x1 x2 x4 x5 x6 M h
  exact seg_ok G P_RX12_ok T_X12_learn_ok hca (fun _ h => absurd h List.not_mem_nil) sw_X12_learn_ok krI_ok (kxN_ok (f := eI)) (List.forall_mem_cons.mpr ⟨kf_X12_learn_127 (hk127), fun _ h => absurd h List.not_mem_nil⟩) ((e_X12_learn_210 F (k127) x0 x1 x2 x4 x5 x6 M).symm.trans h)
set_option maxRecDepth 20000 in
theorem e_X12_learn_174 (F : Nat) (t127 : Nat → Int32 → Int32 → Int32 → Int32 → cM → Option (Int32 × cM)) (t210 : Nat → Int32 → Int32 → Int32 → Int32 → Int32 → cM → Option (Int32 × cM)) (x0 : Nat) (x1 : Int32) (x2 : Int32) (x3 : Int32) (x4 : Int32) (x5 : Int32) (M : cM) : b_X12_learn_174 F t127 t210 x0 x1 x2 x3 x4 x5 M = run T_X12_learn P_RX12 false 0 (naL na_X12_learn) (caL (ca_X12_learn F)) (lkN th_X12_learn) (lkN sw_X12_learn) krI kxN (spL [127, 210]) (KL [(127, kd_X12_learn_127 t127), (210, kd_X12_learn_210 t210)]) 186 174 [some (.ref x0), some (.int x1), some (.int x2), some (.int x3), some (.int x4), some (.int x5), none] [] M := rfl
theorem ok_X12_learn_174 {X : cCtx} {D : Nat} {r : Int32 × cM} (G : FX X 7 (eI r) cX12_learn RX12 0 D) {F : Nat} (hca : ∀ x ∈ (ca_X12_learn (R' := Int32 × cM) F), 1 ≤ D ∧ ceS X.1 RX12 (D - 1) x.1 x.2) (k127 : Nat → Int32 → Int32 → Int32 → Int32 → cM → Option (Int32 × cM)) (hk127 : ∀ x0 x1 x2 x3 x4 M, k127 x0 x1 x2 x3 x4 M = some r → WX X 7 (eI r) 127 [some (.ref x0), some (.int x1), some (.int x2), some (.int x3), some (.int x4), none, none] [] M) : ∀ x0 x1 x2 x3 x4 x5 M, f_X12_learn_174 F k127 x0 x1 x2 x3 x4 x5 M = some r → WX X 7 (eI r) 174 [some (.ref x0), some (.int x1), some (.int x2), some (.int x3), some (.int x4), some (.int x5), none] [] M := by
  intro x0 x1 x2 x3 x4 x5 M h
  exact seg_ok G P_RX12_ok T_X12_learn_ok hca (fun _ h => absurd h List.not_mem_nil) sw_X12_learn_ok krI_ok (kxN_ok (f := eI)) (List.forall_mem_cons.mpr ⟨kf_X12_learn_127 (hk127), List.forall_mem_cons.mpr ⟨kf_X12_learn_210 (ok_X12_learn_210 G hca k127 hk127), fun _ h => absurd h List.not_mem_nil⟩⟩) ((e_X12_learn_174 F (k127) (f_X12_learn_210 F k127) x0 x1 x2 x3 x4 x5 M).symm.trans h)
set_option maxRecDepth 20000 in
theorem e_X12_learn_127 (F : Nat) (t127 : Nat → Int32 → Int32 → Int32 → Int32 → cM → Option (Int32 × cM)) (t174 : Nat → Int32 → Int32 → Int32 → Int32 → Int32 → cM → Option (Int32 × cM)) (t270 : Nat → Int32 → Int32 → Nat → Int32 → Int32 → cM → Option (Int32 × cM)) (x0 : Nat) (x1 : Int32) (x2 : Int32) (x3 : Int32) (x4 : Int32) (M : cM) : b_X12_learn_127 F t127 t174 t270 x0 x1 x2 x3 x4 M = run T_X12_learn P_RX12 false 0 (naL na_X12_learn) (caL (ca_X12_learn F)) (lkN th_X12_learn) (lkN sw_X12_learn) krI kxN (spL [127, 174, 270]) (KL [(127, kd_X12_learn_127 t127), (174, kd_X12_learn_174 t174), (270, kd_X12_learn_270 t270)]) 186 127 [some (.ref x0), some (.int x1), some (.int x2), some (.int x3), some (.int x4), none, none] [] M := rfl
theorem ok_X12_learn_127 {X : cCtx} {D : Nat} {r : Int32 × cM} (G : FX X 7 (eI r) cX12_learn RX12 0 D) {F : Nat} (hca : ∀ x ∈ (ca_X12_learn (R' := Int32 × cM) F), 1 ≤ D ∧ ceS X.1 RX12 (D - 1) x.1 x.2) (n : Nat) : ∀ x0 x1 x2 x3 x4 M, f_X12_learn_127 F n x0 x1 x2 x3 x4 M = some r → WX X 7 (eI r) 127 [some (.ref x0), some (.int x1), some (.int x2), some (.int x3), some (.int x4), none, none] [] M := by
  induction n with
  | zero => intro x0 x1 x2 x3 x4 M h; cases h
  | succ n ih =>
    intro x0 x1 x2 x3 x4 M h
    exact seg_ok G P_RX12_ok T_X12_learn_ok hca (fun _ h => absurd h List.not_mem_nil) sw_X12_learn_ok krI_ok (kxN_ok (f := eI)) (List.forall_mem_cons.mpr ⟨kf_X12_learn_127 (ih), List.forall_mem_cons.mpr ⟨kf_X12_learn_174 (ok_X12_learn_174 G hca (f_X12_learn_127 F n) ih), List.forall_mem_cons.mpr ⟨kf_X12_learn_270 (ok_X12_learn_270 G hca), fun _ h => absurd h List.not_mem_nil⟩⟩⟩) ((e_X12_learn_127 F (f_X12_learn_127 F n) (f_X12_learn_174 F (f_X12_learn_127 F n)) (f_X12_learn_270 F) x0 x1 x2 x3 x4 M).symm.trans h)
set_option maxRecDepth 20000 in
theorem e_X12_learn_51 (F : Nat) (t51 : Nat → Int32 → Int32 → Int32 → cM → Option (Int32 × cM)) (t127 : Nat → Int32 → Int32 → Int32 → Int32 → cM → Option (Int32 × cM)) (x0 : Nat) (x1 : Int32) (x2 : Int32) (x3 : Int32) (M : cM) : b_X12_learn_51 F t51 t127 x0 x1 x2 x3 M = run T_X12_learn P_RX12 false 0 (naL na_X12_learn) (caL (ca_X12_learn F)) (lkN th_X12_learn) (lkN sw_X12_learn) krI kxN (spL [51, 127]) (KL [(51, kd_X12_learn_51 t51), (127, kd_X12_learn_127 t127)]) 186 51 [some (.ref x0), some (.int x1), some (.int x2), some (.int x3), none, none, none] [] M := rfl
theorem ok_X12_learn_51 {X : cCtx} {D : Nat} {r : Int32 × cM} (G : FX X 7 (eI r) cX12_learn RX12 0 D) {F : Nat} (hca : ∀ x ∈ (ca_X12_learn (R' := Int32 × cM) F), 1 ≤ D ∧ ceS X.1 RX12 (D - 1) x.1 x.2) (n : Nat) : ∀ x0 x1 x2 x3 M, f_X12_learn_51 F n x0 x1 x2 x3 M = some r → WX X 7 (eI r) 51 [some (.ref x0), some (.int x1), some (.int x2), some (.int x3), none, none, none] [] M := by
  induction n with
  | zero => intro x0 x1 x2 x3 M h; cases h
  | succ n ih =>
    intro x0 x1 x2 x3 M h
    exact seg_ok G P_RX12_ok T_X12_learn_ok hca (fun _ h => absurd h List.not_mem_nil) sw_X12_learn_ok krI_ok (kxN_ok (f := eI)) (List.forall_mem_cons.mpr ⟨kf_X12_learn_51 (ih), List.forall_mem_cons.mpr ⟨kf_X12_learn_127 (ok_X12_learn_127 G hca F), fun _ h => absurd h List.not_mem_nil⟩⟩) ((e_X12_learn_51 F (f_X12_learn_51 F n) (f_X12_learn_127 F F) x0 x1 x2 x3 M).symm.trans h)
set_option maxRecDepth 20000 in
theorem e_X12_learn_26 (F : Nat) (t51 : Nat → Int32 → Int32 → Int32 → cM → Option (Int32 × cM)) (x0 : Nat) (x1 : Int32) (s0 : Nat) (s1 : Int32) (M : cM) : b_X12_learn_26 F t51 x0 x1 s0 s1 M = run T_X12_learn P_RX12 false 0 (naL na_X12_learn) (caL (ca_X12_learn F)) (lkN th_X12_learn) (lkN sw_X12_learn) krI kxN (spL [51]) (KL [(51, kd_X12_learn_51 t51)]) 186 26 [some (.ref x0), some (.int x1), none, none, none, none, none] [.int s1, .ref s0] M := rfl
theorem ok_X12_learn_26 {X : cCtx} {D : Nat} {r : Int32 × cM} (G : FX X 7 (eI r) cX12_learn RX12 0 D) {F : Nat} (hca : ∀ x ∈ (ca_X12_learn (R' := Int32 × cM) F), 1 ≤ D ∧ ceS X.1 RX12 (D - 1) x.1 x.2) : ∀ x0 x1 s0 s1 M, f_X12_learn_26 F x0 x1 s0 s1 M = some r → WX X 7 (eI r) 26 [some (.ref x0), some (.int x1), none, none, none, none, none] [.int s1, .ref s0] M := by
  intro x0 x1 s0 s1 M h
  exact seg_ok G P_RX12_ok T_X12_learn_ok hca (fun _ h => absurd h List.not_mem_nil) sw_X12_learn_ok krI_ok (kxN_ok (f := eI)) (List.forall_mem_cons.mpr ⟨kf_X12_learn_51 (ok_X12_learn_51 G hca F), fun _ h => absurd h List.not_mem_nil⟩) ((e_X12_learn_26 F (f_X12_learn_51 F F) x0 x1 s0 s1 M).symm.trans h)
set_option maxRecDepth 20000 in
theorem e_X12_learn_0 (F : Nat) (t26 : Nat → Int32 → Nat → Int32 → cM → Option (Int32 × cM)) (x0 : Nat) (x1 : Int32) (M : cM) : b_X12_learn_0 F t26 x0 x1 M = run T_X12_learn P_RX12 false 0 (naL na_X12_learn) (caL (ca_X12_learn F)) (lkN th_X12_learn) (lkN sw_X12_learn) krI kxN (spL [26]) (KL [(26, kd_X12_learn_26 t26)]) 186 0 [some (.ref x0), some (.int x1), none, none, none, none, none] [] M := rfl
theorem ok_X12_learn_0 {X : cCtx} {D : Nat} {r : Int32 × cM} (G : FX X 7 (eI r) cX12_learn RX12 0 D) {F : Nat} (hca : ∀ x ∈ (ca_X12_learn (R' := Int32 × cM) F), 1 ≤ D ∧ ceS X.1 RX12 (D - 1) x.1 x.2) : ∀ x0 x1 M, f_X12_learn_0 F x0 x1 M = some r → WX X 7 (eI r) 0 [some (.ref x0), some (.int x1), none, none, none, none, none] [] M := by
  intro x0 x1 M h
  exact seg_ok G P_RX12_ok T_X12_learn_ok hca (fun _ h => absurd h List.not_mem_nil) sw_X12_learn_ok krI_ok (kxN_ok (f := eI)) (List.forall_mem_cons.mpr ⟨kf_X12_learn_26 (ok_X12_learn_26 G hca), fun _ h => absurd h List.not_mem_nil⟩) ((e_X12_learn_0 F (f_X12_learn_26 F) x0 x1 M).symm.trans h)
theorem c_X12_learn {q : cL} (hst : q.1.stackTraces = false) {D : Nat} (hD : 7 ≤ D) (F : Nat) (a0 : Nat) (a1 : Int32) (M : cM) (r : Int32 × cM) (h : f_X12_learn F a0 a1 M = some r) : CTx q yX12_learn (.code yX12_learn cX12_learn 7 (some .int)) D [.ref a0, .int a1] M (eI r) ∧ ∃ fs, M[a0]? = some (.inr (10, fs)) := by
  unfold f_X12_learn at h
  split at h
  · next hi => exact ⟨CTx_of (own := RX12) (rk := 0) hst (by decide +kernel) rfl (rfl) (Nat.le_of_ble_eq_true rfl) (fun X hX G => by subst hX; exact ok_X12_learn_0 G (ca_X12_learn_ok hst hD F) a0 a1 M h), isC_of hi⟩
  · cases h
-- PatchbayScriptModel.countsAll(I)V
def T_X12_countsAll : List cRow := [(0, .aload_n 0, 1, 0), (1, .iconst 0, 2, 0), (2, .putfield 366, 5, 0), (5, .aload_n 0, 6, 0), (6, .getfield 25, 9, 0), (9, .iload_n 1, 10, 0), (10, .iaload, 11, 0), (11, .ifCond .le 22, 14, 33), (14, .aload_n 0, 15, 0), (15, .iload_n 1, 16, 0), (16, .invokevirtual 385, 19, 0), (19, .aload_n 0, 20, 0), (20, .iconst 1, 21, 0), (21, .aload_n 0, 22, 0), (22, .getfield 25, 25, 0), (25, .iload_n 1, 26, 0), (26, .iaload, 27, 0), (27, .ishl, 28, 0), (28, .iconst 1, 29, 0), (29, .isub, 30, 0), (30, .invokevirtual 376, 33, 0), (33, .return_, 34, 0)]
theorem T_X12_countsAll_ok : T_X12_countsAll.all (rowB cX12_countsAll) = true := by decide +kernel
def th_X12_countsAll : List (Nat × Nat) := []
def sw_X12_countsAll : List (Nat × (List (Int32 × Nat) × Nat)) := []
theorem sw_X12_countsAll_ok : ∀ q ∈ sw_X12_countsAll, swS cX12_countsAll q := fun _ h => absurd h List.not_mem_nil
def na_X12_countsAll : List (Nat × Nat) := [(1156, 2), (1129, 2)]
def ca_X12_countsAll {R' : Type} (F : Nat) : List (Nat × cFn R') := [(1156, n_X12_gathers (f_X12_gathers F)), (1129, n_X12_counts (f_X12_counts F))]
theorem ca_X12_countsAll_ok {R' : Type} {q : cL} (hst : q.1.stackTraces = false) {D : Nat} (hD : 6 ≤ D) (F : Nat) : ∀ x ∈ (ca_X12_countsAll (R' := R') F), 1 ≤ D ∧ ceS q RX12 (D - 1) x.1 x.2 := List.forall_mem_cons.mpr ⟨⟨by omega, n_X12_gathers_ok (k := 385) (lw_good_of (tb_ok 1458 (by decide +kernel)) rfl) (fun a0 a1 M r h => c_X12_gathers hst (by omega) F a0 a1 M r h)⟩, List.forall_mem_cons.mpr ⟨⟨by omega, n_X12_counts_ok (k := 376) (lw_good_of (tb_ok 1488 (by decide +kernel)) rfl) (fun a0 a1 M r h => c_X12_counts hst (by omega) F a0 a1 M r h)⟩, fun _ h => absurd h List.not_mem_nil⟩⟩
set_option maxRecDepth 20000 in
theorem e_X12_countsAll_0 (F : Nat) (x0 : Nat) (x1 : Int32) (M : cM) : b_X12_countsAll_0 F x0 x1 M = run T_X12_countsAll P_RX12 false 5 (naL na_X12_countsAll) (caL (ca_X12_countsAll F)) (lkN th_X12_countsAll) (lkN sw_X12_countsAll) krV kxN (spL []) (KL []) 25 0 [some (.ref x0), some (.int x1)] [] M := rfl
theorem ok_X12_countsAll_0 {X : cCtx} {D : Nat} {r : cM} (G : FX X 2 (eV r) cX12_countsAll RX12 5 D) {F : Nat} (hca : ∀ x ∈ (ca_X12_countsAll (R' := cM) F), 1 ≤ D ∧ ceS X.1 RX12 (D - 1) x.1 x.2) : ∀ x0 x1 M, f_X12_countsAll_0 F x0 x1 M = some r → WX X 2 (eV r) 0 [some (.ref x0), some (.int x1)] [] M := by
  intro x0 x1 M h
  exact seg_ok G P_RX12_ok T_X12_countsAll_ok hca (fun _ h => absurd h List.not_mem_nil) sw_X12_countsAll_ok krV_ok (kxN_ok (f := eV)) (fun _ h => absurd h List.not_mem_nil) ((e_X12_countsAll_0 F x0 x1 M).symm.trans h)
theorem c_X12_countsAll {q : cL} (hst : q.1.stackTraces = false) {D : Nat} (hD : 6 ≤ D) (F : Nat) (a0 : Nat) (a1 : Int32) (M : cM) (r : cM) (h : f_X12_countsAll F a0 a1 M = some r) : CTx q yX12_countsAll (.code yX12_countsAll cX12_countsAll 2 none) D [.ref a0, .int a1] M (eV r) ∧ ∃ fs, M[a0]? = some (.inr (10, fs)) := by
  unfold f_X12_countsAll at h
  split at h
  · next hi => exact ⟨CTx_of (own := RX12) (rk := 5) hst (by decide +kernel) rfl (rfl) (Nat.le_of_ble_eq_true rfl) (fun X hX G => by subst hX; exact ok_X12_countsAll_0 G (ca_X12_countsAll_ok hst hD F) a0 a1 M h), isC_of hi⟩
  · cases h
def n_X12_countsAll {R' : Type} (f : Nat → Int32 → cM → Option (cM)) : cFn R' := fun as M κ κx => match as with
  | [.ref a0, .int a1] => (f a0 a1 M).bind fun p => κ none p
  | _ => none
theorem w_X12_countsAll : ∀ w ∈ [Cond.instanceMethod yX12_countsAll, .selects yX12_countsAll.cls yX12_countsAll yX12_countsAll, .initialized yX12_countsAll.cls, .code yX12_countsAll cX12_countsAll 2 none], w ∈ lw_good := List.forall_mem_cons.mpr ⟨lw_good_of (tb_ok 1550 (by decide +kernel)) rfl, List.forall_mem_cons.mpr ⟨lw_good_of (ts_ok 66 (by decide +kernel)) rfl, List.forall_mem_cons.mpr ⟨lw_good_of (tb_ok 11 (by decide +kernel)) rfl, List.forall_mem_cons.mpr ⟨lw_good_of (tb_ok 1551 (by decide +kernel)) rfl, fun _ h => absurd h List.not_mem_nil⟩⟩⟩⟩
theorem n_X12_countsAll_ok {R' : Type} {q : cL} {own : String} {d k : Nat} {f : Nat → Int32 → cM → Option (cM)} (hl : Cond.methodLink own k yX12_countsAll ∈ lw_good) (hf : ∀ a0 a1 M r, f a0 a1 M = some r → CTx q yX12_countsAll (.code yX12_countsAll cX12_countsAll 2 none) d [.ref a0, .int a1] M (eV r) ∧ ∃ fs, M[a0]? = some (.inr (10, fs))) : ceS q own d (3 * k + 1) (n_X12_countsAll (R' := R') f) := by
  intro as M κ κx r h
  unfold n_X12_countsAll at h
  split at h
  · obtain ⟨p, h1, h2⟩ := Option.bind_eq_some_iff.mp h
    obtain ⟨hc, fs, ha⟩ := hf _ _ _ _ h1
    exact ⟨eV p, fun _ => h2, fun hne => absurd rfl hne, Or.inr (Or.inl ⟨yX12_countsAll, cX12_countsAll, 2, none, k, 1, _, _, 10, TX12, 76, fs, rfl, rfl, hc, ha, rfl, List.forall_mem_cons.mpr ⟨hl, w_X12_countsAll⟩, ⟨rfl, by decide +kernel, by decide +kernel, by decide +kernel⟩, rfl, by decide⟩)⟩
  · cases h
-- PatchbayScriptModel.count(I)I
def T_X12_count : List cRow := [(0, .aload_n 0, 1, 0), (1, .iload_n 1, 2, 0), (2, .invokestatic 287, 5, 0), (5, .ifCond .eq 7, 8, 12), (8, .iconst 0, 9, 0), (9, .goto 4, 12, 13), (12, .iconst 1, 13, 0), (13, .putfield 196, 16, 0), (16, .aload_n 0, 17, 0), (17, .getfield 196, 20, 0), (20, .ifCond .le 5, 23, 25), (23, .iconst 0, 24, 0), (24, .ireturn, 25, 0), (25, .aload_n 0, 26, 0), (26, .iload_n 1, 27, 0), (27, .invokevirtual 394, 30, 0), (30, .aload_n 0, 31, 0), (31, .getfield 366, 34, 0), (34, .ireturn, 35, 0)]
theorem T_X12_count_ok : T_X12_count.all (rowB cX12_count) = true := by decide +kernel
def th_X12_count : List (Nat × Nat) := []
def sw_X12_count : List (Nat × (List (Int32 × Nat) × Nat)) := []
theorem sw_X12_count_ok : ∀ q ∈ sw_X12_count, swS cX12_count q := fun _ h => absurd h List.not_mem_nil
def na_X12_count : List (Nat × Nat) := [(861, 1), (1183, 2)]
def ca_X12_count {R' : Type} (F : Nat) : List (Nat × cFn R') := [(861, n_X12_isTask (f_X12_isTask F)), (1183, n_X12_countsAll (f_X12_countsAll F))]
theorem ca_X12_count_ok {R' : Type} {q : cL} (hst : q.1.stackTraces = false) {D : Nat} (hD : 7 ≤ D) (F : Nat) : ∀ x ∈ (ca_X12_count (R' := R') F), 1 ≤ D ∧ ceS q RX12 (D - 1) x.1 x.2 := List.forall_mem_cons.mpr ⟨⟨by omega, n_X12_isTask_ok (k := 287) (lw_good_of (tb_ok 1435 (by decide +kernel)) rfl) (fun a0 M r h => c_X12_isTask hst (by omega) F a0 M r h)⟩, List.forall_mem_cons.mpr ⟨⟨by omega, n_X12_countsAll_ok (k := 394) (lw_good_of (tb_ok 1548 (by decide +kernel)) rfl) (fun a0 a1 M r h => c_X12_countsAll hst (by omega) F a0 a1 M r h)⟩, fun _ h => absurd h List.not_mem_nil⟩⟩
def kd_X12_count_13 (g : Nat → Int32 → Nat → Int32 → cM → Option (Int32 × cM)) : cKf (Int32 × cM) := fun vs st M => (lR vs 0).bind fun x0 => (lI vs 1).bind fun x1 => match st with
  | [.int s1, .ref s0] => g x0 x1 s0 s1 M
  | _ => none
theorem kf_X12_count_13 {X : cCtx} {o : cO} {r : Int32 × cM} {g : Nat → Int32 → Nat → Int32 → cM → Option (Int32 × cM)} (hg : ∀ x0 x1 s0 s1 M, g x0 x1 s0 s1 M = some r → WX X 2 o 13 [some (.ref x0), some (.int x1)] [.int s1, .ref s0] M) : ∀ vs st M, kd_X12_count_13 g vs st M = some r → WX X 2 o 13 vs st M := by
  intro vs st M h
  unfold kd_X12_count_13 at h
  obtain ⟨x0, h0, h⟩ := Option.bind_eq_some_iff.mp h
  obtain ⟨x1, h1, h⟩ := Option.bind_eq_some_iff.mp h
  split at h
  · exact WX_weak (hg _ _ _ _ _ h) rfl ⟨lR_of h0, lI_of h1, trivial⟩
  · cases h
set_option maxRecDepth 20000 in
theorem e_X12_count_13 (F : Nat) (x0 : Nat) (x1 : Int32) (s0 : Nat) (s1 : Int32) (M : cM) : b_X12_count_13 F x0 x1 s0 s1 M = run T_X12_count P_RX12 false 0 (naL na_X12_count) (caL (ca_X12_count F)) (lkN th_X12_count) (lkN sw_X12_count) krI kxN (spL []) (KL []) 22 13 [some (.ref x0), some (.int x1)] [.int s1, .ref s0] M := rfl
theorem ok_X12_count_13 {X : cCtx} {D : Nat} {r : Int32 × cM} (G : FX X 2 (eI r) cX12_count RX12 0 D) {F : Nat} (hca : ∀ x ∈ (ca_X12_count (R' := Int32 × cM) F), 1 ≤ D ∧ ceS X.1 RX12 (D - 1) x.1 x.2) : ∀ x0 x1 s0 s1 M, f_X12_count_13 F x0 x1 s0 s1 M = some r → WX X 2 (eI r) 13 [some (.ref x0), some (.int x1)] [.int s1, .ref s0] M := by
  intro x0 x1 s0 s1 M h
  exact seg_ok G P_RX12_ok T_X12_count_ok hca (fun _ h => absurd h List.not_mem_nil) sw_X12_count_ok krI_ok (kxN_ok (f := eI)) (fun _ h => absurd h List.not_mem_nil) ((e_X12_count_13 F x0 x1 s0 s1 M).symm.trans h)
set_option maxRecDepth 20000 in
theorem e_X12_count_0 (F : Nat) (t13 : Nat → Int32 → Nat → Int32 → cM → Option (Int32 × cM)) (x0 : Nat) (x1 : Int32) (M : cM) : b_X12_count_0 F t13 x0 x1 M = run T_X12_count P_RX12 false 0 (naL na_X12_count) (caL (ca_X12_count F)) (lkN th_X12_count) (lkN sw_X12_count) krI kxN (spL [13]) (KL [(13, kd_X12_count_13 t13)]) 22 0 [some (.ref x0), some (.int x1)] [] M := rfl
theorem ok_X12_count_0 {X : cCtx} {D : Nat} {r : Int32 × cM} (G : FX X 2 (eI r) cX12_count RX12 0 D) {F : Nat} (hca : ∀ x ∈ (ca_X12_count (R' := Int32 × cM) F), 1 ≤ D ∧ ceS X.1 RX12 (D - 1) x.1 x.2) : ∀ x0 x1 M, f_X12_count_0 F x0 x1 M = some r → WX X 2 (eI r) 0 [some (.ref x0), some (.int x1)] [] M := by
  intro x0 x1 M h
  exact seg_ok G P_RX12_ok T_X12_count_ok hca (fun _ h => absurd h List.not_mem_nil) sw_X12_count_ok krI_ok (kxN_ok (f := eI)) (List.forall_mem_cons.mpr ⟨kf_X12_count_13 (ok_X12_count_13 G hca), fun _ h => absurd h List.not_mem_nil⟩) ((e_X12_count_0 F (f_X12_count_13 F) x0 x1 M).symm.trans h)
theorem c_X12_count {q : cL} (hst : q.1.stackTraces = false) {D : Nat} (hD : 7 ≤ D) (F : Nat) (a0 : Nat) (a1 : Int32) (M : cM) (r : Int32 × cM) (h : f_X12_count F a0 a1 M = some r) : CTx q yX12_count (.code yX12_count cX12_count 2 (some .int)) D [.ref a0, .int a1] M (eI r) ∧ ∃ fs, M[a0]? = some (.inr (10, fs)) := by
  unfold f_X12_count at h
  split at h
  · next hi => exact ⟨CTx_of (own := RX12) (rk := 0) hst (by decide +kernel) rfl (rfl) (Nat.le_of_ble_eq_true rfl) (fun X hX G => by subst hX; exact ok_X12_count_0 G (ca_X12_count_ok hst hD F) a0 a1 M h), isC_of hi⟩
  · cases h
-- PatchbayScriptModel.weight(II)I
def T_X12_weight : List cRow := [(0, .aload_n 0, 1, 0), (1, .iload_n 1, 2, 0), (2, .invokestatic 287, 5, 0), (5, .ifCond .eq 11, 8, 16), (8, .iload_n 2, 9, 0), (9, .ifCond .lt 7, 12, 16), (12, .iconst 0, 13, 0), (13, .goto 4, 16, 17), (16, .iconst 1, 17, 0), (17, .putfield 196, 20, 0), (20, .aload_n 0, 21, 0), (21, .getfield 196, 24, 0), (24, .ifCond .le 5, 27, 29), (27, .iconst 0, 28, 0), (28, .ireturn, 29, 0), (29, .aload_n 0, 30, 0), (30, .iload_n 1, 31, 0), (31, .invokevirtual 394, 34, 0), (34, .iload_n 2, 35, 0), (35, .aload_n 0, 36, 0), (36, .getfield 366, 39, 0), (39, .if_icmp .ge 15, 42, 54), (42, .aload_n 0, 43, 0), (43, .getfield 92, 46, 0), (46, .bipush 66, 48, 0), (48, .iload_n 2, 49, 0), (49, .iadd, 50, 0), (50, .iaload, 51, 0), (51, .goto 8, 54, 59), (54, .aload_n 0, 55, 0), (55, .iconst 1, 56, 0), (56, .invokevirtual 293, 59, 0), (59, .ireturn, 60, 0)]
theorem T_X12_weight_ok : T_X12_weight.all (rowB cX12_weight) = true := by decide +kernel
def th_X12_weight : List (Nat × Nat) := []
def sw_X12_weight : List (Nat × (List (Int32 × Nat) × Nat)) := []
theorem sw_X12_weight_ok : ∀ q ∈ sw_X12_weight, swS cX12_weight q := fun _ h => absurd h List.not_mem_nil
def na_X12_weight : List (Nat × Nat) := [(861, 1), (1183, 2), (880, 2)]
def ca_X12_weight {R' : Type} (F : Nat) : List (Nat × cFn R') := [(861, n_X12_isTask (f_X12_isTask F)), (1183, n_X12_countsAll (f_X12_countsAll F)), (880, n_X12_fails (f_X12_fails F))]
theorem ca_X12_weight_ok {R' : Type} {q : cL} (hst : q.1.stackTraces = false) {D : Nat} (hD : 7 ≤ D) (F : Nat) : ∀ x ∈ (ca_X12_weight (R' := R') F), 1 ≤ D ∧ ceS q RX12 (D - 1) x.1 x.2 := List.forall_mem_cons.mpr ⟨⟨by omega, n_X12_isTask_ok (k := 287) (lw_good_of (tb_ok 1435 (by decide +kernel)) rfl) (fun a0 M r h => c_X12_isTask hst (by omega) F a0 M r h)⟩, List.forall_mem_cons.mpr ⟨⟨by omega, n_X12_countsAll_ok (k := 394) (lw_good_of (tb_ok 1548 (by decide +kernel)) rfl) (fun a0 a1 M r h => c_X12_countsAll hst (by omega) F a0 a1 M r h)⟩, List.forall_mem_cons.mpr ⟨⟨by omega, n_X12_fails_ok (k := 293) (lw_good_of (tb_ok 1446 (by decide +kernel)) rfl) (fun a0 a1 M r h => c_X12_fails hst (by omega) F a0 a1 M r h)⟩, fun _ h => absurd h List.not_mem_nil⟩⟩⟩
def kd_X12_weight_17 (g : Nat → Int32 → Int32 → Nat → Int32 → cM → Option (Int32 × cM)) : cKf (Int32 × cM) := fun vs st M => (lR vs 0).bind fun x0 => (lI vs 1).bind fun x1 => (lI vs 2).bind fun x2 => match st with
  | [.int s1, .ref s0] => g x0 x1 x2 s0 s1 M
  | _ => none
theorem kf_X12_weight_17 {X : cCtx} {o : cO} {r : Int32 × cM} {g : Nat → Int32 → Int32 → Nat → Int32 → cM → Option (Int32 × cM)} (hg : ∀ x0 x1 x2 s0 s1 M, g x0 x1 x2 s0 s1 M = some r → WX X 3 o 17 [some (.ref x0), some (.int x1), some (.int x2)] [.int s1, .ref s0] M) : ∀ vs st M, kd_X12_weight_17 g vs st M = some r → WX X 3 o 17 vs st M := by
  intro vs st M h
  unfold kd_X12_weight_17 at h
  obtain ⟨x0, h0, h⟩ := Option.bind_eq_some_iff.mp h
  obtain ⟨x1, h1, h⟩ := Option.bind_eq_some_iff.mp h
  obtain ⟨x2, h2, h⟩ := Option.bind_eq_some_iff.mp h
  split at h
  · exact WX_weak (hg _ _ _ _ _ _ h) rfl ⟨lR_of h0, lI_of h1, lI_of h2, trivial⟩
  · cases h
set_option maxRecDepth 20000 in
theorem e_X12_weight_17 (F : Nat) (x0 : Nat) (x1 : Int32) (x2 : Int32) (s0 : Nat) (s1 : Int32) (M : cM) : b_X12_weight_17 F x0 x1 x2 s0 s1 M = run T_X12_weight P_RX12 false 0 (naL na_X12_weight) (caL (ca_X12_weight F)) (lkN th_X12_weight) (lkN sw_X12_weight) krI kxN (spL []) (KL []) 36 17 [some (.ref x0), some (.int x1), some (.int x2)] [.int s1, .ref s0] M := rfl
theorem ok_X12_weight_17 {X : cCtx} {D : Nat} {r : Int32 × cM} (G : FX X 3 (eI r) cX12_weight RX12 0 D) {F : Nat} (hca : ∀ x ∈ (ca_X12_weight (R' := Int32 × cM) F), 1 ≤ D ∧ ceS X.1 RX12 (D - 1) x.1 x.2) : ∀ x0 x1 x2 s0 s1 M, f_X12_weight_17 F x0 x1 x2 s0 s1 M = some r → WX X 3 (eI r) 17 [some (.ref x0), some (.int x1), some (.int x2)] [.int s1, .ref s0] M := by
  intro x0 x1 x2 s0 s1 M h
  exact seg_ok G P_RX12_ok T_X12_weight_ok hca (fun _ h => absurd h List.not_mem_nil) sw_X12_weight_ok krI_ok (kxN_ok (f := eI)) (fun _ h => absurd h List.not_mem_nil) ((e_X12_weight_17 F x0 x1 x2 s0 s1 M).symm.trans h)
set_option maxRecDepth 20000 in
theorem e_X12_weight_0 (F : Nat) (t17 : Nat → Int32 → Int32 → Nat → Int32 → cM → Option (Int32 × cM)) (x0 : Nat) (x1 : Int32) (x2 : Int32) (M : cM) : b_X12_weight_0 F t17 x0 x1 x2 M = run T_X12_weight P_RX12 false 0 (naL na_X12_weight) (caL (ca_X12_weight F)) (lkN th_X12_weight) (lkN sw_X12_weight) krI kxN (spL [17]) (KL [(17, kd_X12_weight_17 t17)]) 36 0 [some (.ref x0), some (.int x1), some (.int x2)] [] M := rfl
theorem ok_X12_weight_0 {X : cCtx} {D : Nat} {r : Int32 × cM} (G : FX X 3 (eI r) cX12_weight RX12 0 D) {F : Nat} (hca : ∀ x ∈ (ca_X12_weight (R' := Int32 × cM) F), 1 ≤ D ∧ ceS X.1 RX12 (D - 1) x.1 x.2) : ∀ x0 x1 x2 M, f_X12_weight_0 F x0 x1 x2 M = some r → WX X 3 (eI r) 0 [some (.ref x0), some (.int x1), some (.int x2)] [] M := by
  intro x0 x1 x2 M h
  exact seg_ok G P_RX12_ok T_X12_weight_ok hca (fun _ h => absurd h List.not_mem_nil) sw_X12_weight_ok krI_ok (kxN_ok (f := eI)) (List.forall_mem_cons.mpr ⟨kf_X12_weight_17 (ok_X12_weight_17 G hca), fun _ h => absurd h List.not_mem_nil⟩) ((e_X12_weight_0 F (f_X12_weight_17 F) x0 x1 x2 M).symm.trans h)
theorem c_X12_weight {q : cL} (hst : q.1.stackTraces = false) {D : Nat} (hD : 7 ≤ D) (F : Nat) (a0 : Nat) (a1 : Int32) (a2 : Int32) (M : cM) (r : Int32 × cM) (h : f_X12_weight F a0 a1 a2 M = some r) : CTx q yX12_weight (.code yX12_weight cX12_weight 3 (some .int)) D [.ref a0, .int a1, .int a2] M (eI r) ∧ ∃ fs, M[a0]? = some (.inr (10, fs)) := by
  unfold f_X12_weight at h
  split at h
  · next hi => exact ⟨CTx_of (own := RX12) (rk := 0) hst (by decide +kernel) rfl (rfl) (Nat.le_of_ble_eq_true rfl) (fun X hX G => by subst hX; exact ok_X12_weight_0 G (ca_X12_weight_ok hst hD F) a0 a1 a2 M h), isC_of hi⟩
  · cases h
-- PatchbayScriptModel.differ(II)Z
def T_X12_differ : List cRow := [(0, .iconst 0, 1, 0), (1, .istore_n 3, 2, 0), (2, .bipush (-2), 4, 0), (4, .istore 4, 6, 0), (6, .aload_n 0, 7, 0), (7, .iload_n 1, 8, 0), (8, .invokevirtual 284, 11, 0), (11, .iconst 0, 12, 0), (12, .istore 5, 14, 0), (14, .iload 5, 16, 0), (16, .aload_n 0, 17, 0), (17, .getfield 366, 20, 0), (20, .if_icmp .ge 163, 23, 183), (23, .iload_n 2, 24, 0), (24, .iload 5, 26, 0), (26, .ishr, 27, 0), (27, .iconst 1, 28, 0), (28, .iand, 29, 0), (29, .iconst 1, 30, 0), (30, .if_icmp .ne 147, 33, 177), (33, .aload_n 0, 34, 0), (34, .bipush 66, 36, 0), (36, .iload 5, 38, 0), (38, .iadd, 39, 0), (39, .invokevirtual 256, 42, 0), (42, .ifCond .eq 10, 45, 52), (45, .aload_n 0, 46, 0), (46, .getfield 228, 49, 0), (49, .goto 4, 52, 53), (52, .iconst (-1), 53, 0), (53, .istore 6, 55, 0), (55, .iload 4, 57, 0), (57, .bipush (-2), 59, 0), (59, .if_icmp .eq 10, 62, 69), (62, .iload 4, 64, 0), (64, .iload 6, 66, 0), (66, .if_icmp .ne 7, 69, 73), (69, .iconst 1, 70, 0), (70, .goto 4, 73, 74), (73, .iconst 0, 74, 0), (74, .istore 7, 76, 0), (76, .iconst 0, 77, 0), (77, .istore 8, 79, 0), (79, .iload 8, 81, 0), (81, .iload 6, 83, 0), (83, .if_icmp .ge 45, 86, 128), (86, .iload 4, 88, 0), (88, .iload 6, 90, 0), (90, .if_icmp .ne 38, 93, 128), (93, .iload 7, 95, 0), (95, .ifCond .eq 24, 98, 119), (98, .aload_n 0, 99, 0), (99, .getfield 125, 102, 0), (102, .iload 8, 104, 0), (104, .iaload, 105, 0), (105, .aload_n 0, 106, 0), (106, .getfield 193, 109, 0), (109, .iload 8, 111, 0), (111, .iaload, 112, 0), (112, .if_icmp .ne 7, 115, 119), (115, .iconst 1, 116, 0), (116, .goto 4, 119, 120), (119, .iconst 0, 120, 0), (120, .istore 7, 122, 0), (122, .iinc 8 1, 125, 0), (125, .goto (-46), 128, 79), (128, .iconst 0, 129, 0), (129, .istore 8, 131, 0), (131, .iload 8, 133, 0), (133, .iload 6, 135, 0), (135, .if_icmp .ge 23, 138, 158), (138, .aload_n 0, 139, 0), (139, .getfield 193, 142, 0), (142, .iload 8, 144, 0), (144, .aload_n 0, 145, 0), (145, .getfield 125, 148, 0), (148, .iload 8, 150, 0), (150, .iaload, 151, 0), (151, .iastore, 152, 0), (152, .iinc 8 1, 155, 0), (155, .goto (-24), 158, 131), (158, .iload_n 3, 159, 0), (159, .ifCond .ne 8, 162, 167), (162, .iload 7, 164, 0), (164, .ifCond .ne 7, 167, 171), (167, .iconst 1, 168, 0), (168, .goto 4, 171, 172), (171, .iconst 0, 172, 0), (172, .istore_n 3, 173, 0), (173, .iload 6, 175, 0), (175, .istore 4, 177, 0), (177, .iinc 5 1, 180, 0), (180, .goto (-166), 183, 14), (183, .iload_n 3, 184, 0), (184, .ireturn, 185, 0)]
theorem T_X12_differ_ok : T_X12_differ.all (rowB cX12_differ) = true := by decide +kernel
def th_X12_differ : List (Nat × Nat) := []
def sw_X12_differ : List (Nat × (List (Int32 × Nat) × Nat)) := []
theorem sw_X12_differ_ok : ∀ q ∈ sw_X12_differ, swS cX12_differ q := fun _ h => absurd h List.not_mem_nil
def na_X12_differ : List (Nat × Nat) := [(853, 2), (769, 2)]
def ca_X12_differ {R' : Type} (F : Nat) : List (Nat × cFn R') := [(853, n_X12_laysLine (f_X12_laysLine F)), (769, n_X12_makes (f_X12_makes F))]
theorem ca_X12_differ_ok {R' : Type} {q : cL} (hst : q.1.stackTraces = false) {D : Nat} (hD : 6 ≤ D) (F : Nat) : ∀ x ∈ (ca_X12_differ (R' := R') F), 1 ≤ D ∧ ceS q RX12 (D - 1) x.1 x.2 := List.forall_mem_cons.mpr ⟨⟨by omega, n_X12_laysLine_ok (k := 284) (lw_good_of (tb_ok 1363 (by decide +kernel)) rfl) (fun a0 a1 M r h => c_X12_laysLine hst (by omega) F a0 a1 M r h)⟩, List.forall_mem_cons.mpr ⟨⟨by omega, n_X12_makes_ok (k := 256) (lw_good_of (tb_ok 1389 (by decide +kernel)) rfl) (fun a0 a1 M r h => c_X12_makes hst (by omega) F a0 a1 M r h)⟩, fun _ h => absurd h List.not_mem_nil⟩⟩
def kd_X12_differ_14 (g : Nat → Int32 → Int32 → Int32 → Int32 → cM → Option (Int32 × cM)) : cKf (Int32 × cM) := fun vs st M => (lR vs 0).bind fun x0 => (lI vs 2).bind fun x2 => (lI vs 3).bind fun x3 => (lI vs 4).bind fun x4 => (lI vs 5).bind fun x5 => match st with
  | [] => g x0 x2 x3 x4 x5 M
  | _ => none
theorem kf_X12_differ_14 {X : cCtx} {o : cO} {r : Int32 × cM} {g : Nat → Int32 → Int32 → Int32 → Int32 → cM → Option (Int32 × cM)} (hg : ∀ x0 x2 x3 x4 x5 M, g x0 x2 x3 x4 x5 M = some r → WX X 9 o 14 [some (.ref x0), none, some (.int x2), some (.int x3), some (.int x4), some (.int x5), none, none, none] [] M) : ∀ vs st M, kd_X12_differ_14 g vs st M = some r → WX X 9 o 14 vs st M := by
  intro vs st M h
  unfold kd_X12_differ_14 at h
  obtain ⟨x0, h0, h⟩ := Option.bind_eq_some_iff.mp h
  obtain ⟨x2, h2, h⟩ := Option.bind_eq_some_iff.mp h
  obtain ⟨x3, h3, h⟩ := Option.bind_eq_some_iff.mp h
  obtain ⟨x4, h4, h⟩ := Option.bind_eq_some_iff.mp h
  obtain ⟨x5, h5, h⟩ := Option.bind_eq_some_iff.mp h
  split at h
  · exact WX_weak (hg _ _ _ _ _ _ h) rfl ⟨lR_of h0, lI_of h2, lI_of h3, lI_of h4, lI_of h5, trivial⟩
  · cases h
def kd_X12_differ_53 (g : Nat → Int32 → Int32 → Int32 → Int32 → Int32 → cM → Option (Int32 × cM)) : cKf (Int32 × cM) := fun vs st M => (lR vs 0).bind fun x0 => (lI vs 2).bind fun x2 => (lI vs 3).bind fun x3 => (lI vs 4).bind fun x4 => (lI vs 5).bind fun x5 => match st with
  | [.int s0] => g x0 x2 x3 x4 x5 s0 M
  | _ => none
theorem kf_X12_differ_53 {X : cCtx} {o : cO} {r : Int32 × cM} {g : Nat → Int32 → Int32 → Int32 → Int32 → Int32 → cM → Option (Int32 × cM)} (hg : ∀ x0 x2 x3 x4 x5 s0 M, g x0 x2 x3 x4 x5 s0 M = some r → WX X 9 o 53 [some (.ref x0), none, some (.int x2), some (.int x3), some (.int x4), some (.int x5), none, none, none] [.int s0] M) : ∀ vs st M, kd_X12_differ_53 g vs st M = some r → WX X 9 o 53 vs st M := by
  intro vs st M h
  unfold kd_X12_differ_53 at h
  obtain ⟨x0, h0, h⟩ := Option.bind_eq_some_iff.mp h
  obtain ⟨x2, h2, h⟩ := Option.bind_eq_some_iff.mp h
  obtain ⟨x3, h3, h⟩ := Option.bind_eq_some_iff.mp h
  obtain ⟨x4, h4, h⟩ := Option.bind_eq_some_iff.mp h
  obtain ⟨x5, h5, h⟩ := Option.bind_eq_some_iff.mp h
  split at h
  · exact WX_weak (hg _ _ _ _ _ _ _ h) rfl ⟨lR_of h0, lI_of h2, lI_of h3, lI_of h4, lI_of h5, trivial⟩
  · cases h
def kd_X12_differ_79 (g : Nat → Int32 → Int32 → Int32 → Int32 → Int32 → Int32 → Int32 → cM → Option (Int32 × cM)) : cKf (Int32 × cM) := fun vs st M => (lR vs 0).bind fun x0 => (lI vs 2).bind fun x2 => (lI vs 3).bind fun x3 => (lI vs 4).bind fun x4 => (lI vs 5).bind fun x5 => (lI vs 6).bind fun x6 => (lI vs 7).bind fun x7 => (lI vs 8).bind fun x8 => match st with
  | [] => g x0 x2 x3 x4 x5 x6 x7 x8 M
  | _ => none
theorem kf_X12_differ_79 {X : cCtx} {o : cO} {r : Int32 × cM} {g : Nat → Int32 → Int32 → Int32 → Int32 → Int32 → Int32 → Int32 → cM → Option (Int32 × cM)} (hg : ∀ x0 x2 x3 x4 x5 x6 x7 x8 M, g x0 x2 x3 x4 x5 x6 x7 x8 M = some r → WX X 9 o 79 [some (.ref x0), none, some (.int x2), some (.int x3), some (.int x4), some (.int x5), some (.int x6), some (.int x7), some (.int x8)] [] M) : ∀ vs st M, kd_X12_differ_79 g vs st M = some r → WX X 9 o 79 vs st M := by
  intro vs st M h
  unfold kd_X12_differ_79 at h
  obtain ⟨x0, h0, h⟩ := Option.bind_eq_some_iff.mp h
  obtain ⟨x2, h2, h⟩ := Option.bind_eq_some_iff.mp h
  obtain ⟨x3, h3, h⟩ := Option.bind_eq_some_iff.mp h
  obtain ⟨x4, h4, h⟩ := Option.bind_eq_some_iff.mp h
  obtain ⟨x5, h5, h⟩ := Option.bind_eq_some_iff.mp h
  obtain ⟨x6, h6, h⟩ := Option.bind_eq_some_iff.mp h
  obtain ⟨x7, h7, h⟩ := Option.bind_eq_some_iff.mp h
  obtain ⟨x8, h8, h⟩ := Option.bind_eq_some_iff.mp h
  split at h
  · exact WX_weak (hg _ _ _ _ _ _ _ _ _ h) rfl ⟨lR_of h0, lI_of h2, lI_of h3, lI_of h4, lI_of h5, lI_of h6, lI_of h7, lI_of h8, trivial⟩
  · cases h
def kd_X12_differ_131 (g : Nat → Int32 → Int32 → Int32 → Int32 → Int32 → Int32 → cM → Option (Int32 × cM)) : cKf (Int32 × cM) := fun vs st M => (lR vs 0).bind fun x0 => (lI vs 2).bind fun x2 => (lI vs 3).bind fun x3 => (lI vs 5).bind fun x5 => (lI vs 6).bind fun x6 => (lI vs 7).bind fun x7 => (lI vs 8).bind fun x8 => match st with
  | [] => g x0 x2 x3 x5 x6 x7 x8 M
  | _ => none
theorem kf_X12_differ_131 {X : cCtx} {o : cO} {r : Int32 × cM} {g : Nat → Int32 → Int32 → Int32 → Int32 → Int32 → Int32 → cM → Option (Int32 × cM)} (hg : ∀ x0 x2 x3 x5 x6 x7 x8 M, g x0 x2 x3 x5 x6 x7 x8 M = some r → WX X 9 o 131 [some (.ref x0), none, some (.int x2), some (.int x3), none, some (.int x5), some (.int x6), some (.int x7), some (.int x8)] [] M) : ∀ vs st M, kd_X12_differ_131 g vs st M = some r → WX X 9 o 131 vs st M := by
  intro vs st M h
  unfold kd_X12_differ_131 at h
  obtain ⟨x0, h0, h⟩ := Option.bind_eq_some_iff.mp h
  obtain ⟨x2, h2, h⟩ := Option.bind_eq_some_iff.mp h
  obtain ⟨x3, h3, h⟩ := Option.bind_eq_some_iff.mp h
  obtain ⟨x5, h5, h⟩ := Option.bind_eq_some_iff.mp h
  obtain ⟨x6, h6, h⟩ := Option.bind_eq_some_iff.mp h
  obtain ⟨x7, h7, h⟩ := Option.bind_eq_some_iff.mp h
  obtain ⟨x8, h8, h⟩ := Option.bind_eq_some_iff.mp h
  split at h
  · exact WX_weak (hg _ _ _ _ _ _ _ _ h) rfl ⟨lR_of h0, lI_of h2, lI_of h3, lI_of h5, lI_of h6, lI_of h7, lI_of h8, trivial⟩
  · cases h
set_option maxRecDepth 20000 in
theorem e_X12_differ_131 (F : Nat) (t14 : Nat → Int32 → Int32 → Int32 → Int32 → cM → Option (Int32 × cM)) (t131 : Nat → Int32 → Int32 → Int32 → Int32 → Int32 → Int32 → cM → Option (Int32 × cM)) (x0 : Nat) (x2 : Int32) (x3 : Int32) (x5 : Int32) (x6 : Int32) (x7 : Int32) (x8 : Int32) (M : cM) : b_X12_differ_131 F t14 t131 x0 x2 x3 x5 x6 x7 x8 M = run T_X12_differ P_RX12 false 1 (naL na_X12_differ) (caL (ca_X12_differ F)) (lkN th_X12_differ) (lkN sw_X12_differ) krI kxN (spL [14, 131]) (KL [(14, kd_X12_differ_14 t14), (131, kd_X12_differ_131 t131)]) 98 131 [some (.ref x0), none, some (.int x2), some (.int x3), none, some (.int x5), some (.int x6), some (.int x7), some (.int x8)] [] M := rfl
theorem ok_X12_differ_131 {X : cCtx} {D : Nat} {r : Int32 × cM} (G : FX X 9 (eI r) cX12_differ RX12 1 D) {F : Nat} (hca : ∀ x ∈ (ca_X12_differ (R' := Int32 × cM) F), 1 ≤ D ∧ ceS X.1 RX12 (D - 1) x.1 x.2) (k14 : Nat → Int32 → Int32 → Int32 → Int32 → cM → Option (Int32 × cM)) (hk14 : ∀ x0 x2 x3 x4 x5 M, k14 x0 x2 x3 x4 x5 M = some r → WX X 9 (eI r) 14 [some (.ref x0), none, some (.int x2), some (.int x3), some (.int x4), some (.int x5), none, none, none] [] M) (n : Nat) : ∀ x0 x2 x3 x5 x6 x7 x8 M, f_X12_differ_131 F k14 n x0 x2 x3 x5 x6 x7 x8 M = some r → WX X 9 (eI r) 131 [some (.ref x0), none, some (.int x2), some (.int x3), none, some (.int x5), some (.int x6), some (.int x7), some (.int x8)] [] M := by
  induction n with
  | zero => intro x0 x2 x3 x5 x6 x7 x8 M h; cases h
  | succ n ih =>
    intro x0 x2 x3 x5 x6 x7 x8 M h
    exact seg_ok G P_RX12_ok T_X12_differ_ok hca (fun _ h => absurd h List.not_mem_nil) sw_X12_differ_ok krI_ok (kxN_ok (f := eI)) (List.forall_mem_cons.mpr ⟨kf_X12_differ_14 (hk14), List.forall_mem_cons.mpr ⟨kf_X12_differ_131 (ih), fun _ h => absurd h List.not_mem_nil⟩⟩) ((e_X12_differ_131 F (k14) (f_X12_differ_131 F k14 n) x0 x2 x3 x5 x6 x7 x8 M).symm.trans h)
set_option maxRecDepth 20000 in
theorem e_X12_differ_79 (F : Nat) (t79 : Nat → Int32 → Int32 → Int32 → Int32 → Int32 → Int32 → Int32 → cM → Option (Int32 × cM)) (t131 : Nat → Int32 → Int32 → Int32 → Int32 → Int32 → Int32 → cM → Option (Int32 × cM)) (x0 : Nat) (x2 : Int32) (x3 : Int32) (x4 : Int32) (x5 : Int32) (x6 : Int32) (x7 : Int32) (x8 : Int32) (M : cM) : b_X12_differ_79 F t79 t131 x0 x2 x3 x4 x5 x6 x7 x8 M = run T_X12_differ P_RX12 false 1 (naL na_X12_differ) (caL (ca_X12_differ F)) (lkN th_X12_differ) (lkN sw_X12_differ) krI kxN (spL [79, 131]) (KL [(79, kd_X12_differ_79 t79), (131, kd_X12_differ_131 t131)]) 98 79 [some (.ref x0), none, some (.int x2), some (.int x3), some (.int x4), some (.int x5), some (.int x6), some (.int x7), some (.int x8)] [] M := rfl
theorem ok_X12_differ_79 {X : cCtx} {D : Nat} {r : Int32 × cM} (G : FX X 9 (eI r) cX12_differ RX12 1 D) {F : Nat} (hca : ∀ x ∈ (ca_X12_differ (R' := Int32 × cM) F), 1 ≤ D ∧ ceS X.1 RX12 (D - 1) x.1 x.2) (k14 : Nat → Int32 → Int32 → Int32 → Int32 → cM → Option (Int32 × cM)) (hk14 : ∀ x0 x2 x3 x4 x5 M, k14 x0 x2 x3 x4 x5 M = some r → WX X 9 (eI r) 14 [some (.ref x0), none, some (.int x2), some (.int x3), some (.int x4), some (.int x5), none, none, none] [] M) (n : Nat) : ∀ x0 x2 x3 x4 x5 x6 x7 x8 M, f_X12_differ_79 F k14 n x0 x2 x3 x4 x5 x6 x7 x8 M = some r → WX X 9 (eI r) 79 [some (.ref x0), none, some (.int x2), some (.int x3), some (.int x4), some (.int x5), some (.int x6), some (.int x7), some (.int x8)] [] M := by
  induction n with
  | zero => intro x0 x2 x3 x4 x5 x6 x7 x8 M h; cases h
  | succ n ih =>
    intro x0 x2 x3 x4 x5 x6 x7 x8 M h
    exact seg_ok G P_RX12_ok T_X12_differ_ok hca (fun _ h => absurd h List.not_mem_nil) sw_X12_differ_ok krI_ok (kxN_ok (f := eI)) (List.forall_mem_cons.mpr ⟨kf_X12_differ_79 (ih), List.forall_mem_cons.mpr ⟨kf_X12_differ_131 (ok_X12_differ_131 G hca k14 hk14 F), fun _ h => absurd h List.not_mem_nil⟩⟩) ((e_X12_differ_79 F (f_X12_differ_79 F k14 n) (f_X12_differ_131 F k14 F) x0 x2 x3 x4 x5 x6 x7 x8 M).symm.trans h)
set_option maxRecDepth 20000 in
theorem e_X12_differ_53 (F : Nat) (t79 : Nat → Int32 → Int32 → Int32 → Int32 → Int32 → Int32 → Int32 → cM → Option (Int32 × cM)) (x0 : Nat) (x2 : Int32) (x3 : Int32) (x4 : Int32) (x5 : Int32) (s0 : Int32) (M : cM) : b_X12_differ_53 F t79 x0 x2 x3 x4 x5 s0 M = run T_X12_differ P_RX12 false 1 (naL na_X12_differ) (caL (ca_X12_differ F)) (lkN th_X12_differ) (lkN sw_X12_differ) krI kxN (spL [79]) (KL [(79, kd_X12_differ_79 t79)]) 98 53 [some (.ref x0), none, some (.int x2), some (.int x3), some (.int x4), some (.int x5), none, none, none] [.int s0] M := rfl
theorem ok_X12_differ_53 {X : cCtx} {D : Nat} {r : Int32 × cM} (G : FX X 9 (eI r) cX12_differ RX12 1 D) {F : Nat} (hca : ∀ x ∈ (ca_X12_differ (R' := Int32 × cM) F), 1 ≤ D ∧ ceS X.1 RX12 (D - 1) x.1 x.2) (k14 : Nat → Int32 → Int32 → Int32 → Int32 → cM → Option (Int32 × cM)) (hk14 : ∀ x0 x2 x3 x4 x5 M, k14 x0 x2 x3 x4 x5 M = some r → WX X 9 (eI r) 14 [some (.ref x0), none, some (.int x2), some (.int x3), some (.int x4), some (.int x5), none, none, none] [] M) : ∀ x0 x2 x3 x4 x5 s0 M, f_X12_differ_53 F k14 x0 x2 x3 x4 x5 s0 M = some r → WX X 9 (eI r) 53 [some (.ref x0), none, some (.int x2), some (.int x3), some (.int x4), some (.int x5), none, none, none] [.int s0] M := by
  intro x0 x2 x3 x4 x5 s0 M h
  exact seg_ok G P_RX12_ok T_X12_differ_ok hca (fun _ h => absurd h List.not_mem_nil) sw_X12_differ_ok krI_ok (kxN_ok (f := eI)) (List.forall_mem_cons.mpr ⟨kf_X12_differ_79 (ok_X12_differ_79 G hca k14 hk14 F), fun _ h => absurd h List.not_mem_nil⟩) ((e_X12_differ_53 F (f_X12_differ_79 F k14 F) x0 x2 x3 x4 x5 s0 M).symm.trans h)
set_option maxRecDepth 20000 in
theorem e_X12_differ_14 (F : Nat) (t14 : Nat → Int32 → Int32 → Int32 → Int32 → cM → Option (Int32 × cM)) (t53 : Nat → Int32 → Int32 → Int32 → Int32 → Int32 → cM → Option (Int32 × cM)) (x0 : Nat) (x2 : Int32) (x3 : Int32) (x4 : Int32) (x5 : Int32) (M : cM) : b_X12_differ_14 F t14 t53 x0 x2 x3 x4 x5 M = run T_X12_differ P_RX12 false 1 (naL na_X12_differ) (caL (ca_X12_differ F)) (lkN th_X12_differ) (lkN sw_X12_differ) krI kxN (spL [14, 53]) (KL [(14, kd_X12_differ_14 t14), (53, kd_X12_differ_53 t53)]) 98 14 [some (.ref x0), none, some (.int x2), some (.int x3), some (.int x4), some (.int x5), none, none, none] [] M := rfl
theorem ok_X12_differ_14 {X : cCtx} {D : Nat} {r : Int32 × cM} (G : FX X 9 (eI r) cX12_differ RX12 1 D) {F : Nat} (hca : ∀ x ∈ (ca_X12_differ (R' := Int32 × cM) F), 1 ≤ D ∧ ceS X.1 RX12 (D - 1) x.1 x.2) (n : Nat) : ∀ x0 x2 x3 x4 x5 M, f_X12_differ_14 F n x0 x2 x3 x4 x5 M = some r → WX X 9 (eI r) 14 [some (.ref x0), none, some (.int x2), some (.int x3), some (.int x4), some (.int x5), none, none, none] [] M := by
  induction n with
  | zero => intro x0 x2 x3 x4 x5 M h; cases h
  | succ n ih =>
    intro x0 x2 x3 x4 x5 M h
    exact seg_ok G P_RX12_ok T_X12_differ_ok hca (fun _ h => absurd h List.not_mem_nil) sw_X12_differ_ok krI_ok (kxN_ok (f := eI)) (List.forall_mem_cons.mpr ⟨kf_X12_differ_14 (ih), List.forall_mem_cons.mpr ⟨kf_X12_differ_53 (ok_X12_differ_53 G hca (f_X12_differ_14 F n) ih), fun _ h => absurd h List.not_mem_nil⟩⟩) ((e_X12_differ_14 F (f_X12_differ_14 F n) (f_X12_differ_53 F (f_X12_differ_14 F n)) x0 x2 x3 x4 x5 M).symm.trans h)
set_option maxRecDepth 20000 in
theorem e_X12_differ_0 (F : Nat) (t14 : Nat → Int32 → Int32 → Int32 → Int32 → cM → Option (Int32 × cM)) (x0 : Nat) (x1 : Int32) (x2 : Int32) (M : cM) : b_X12_differ_0 F t14 x0 x1 x2 M = run T_X12_differ P_RX12 false 1 (naL na_X12_differ) (caL (ca_X12_differ F)) (lkN th_X12_differ) (lkN sw_X12_differ) krI kxN (spL [14]) (KL [(14, kd_X12_differ_14 t14)]) 98 0 [some (.ref x0), some (.int x1), some (.int x2), none, none, none, none, none, none] [] M := rfl
theorem ok_X12_differ_0 {X : cCtx} {D : Nat} {r : Int32 × cM} (G : FX X 9 (eI r) cX12_differ RX12 1 D) {F : Nat} (hca : ∀ x ∈ (ca_X12_differ (R' := Int32 × cM) F), 1 ≤ D ∧ ceS X.1 RX12 (D - 1) x.1 x.2) : ∀ x0 x1 x2 M, f_X12_differ_0 F x0 x1 x2 M = some r → WX X 9 (eI r) 0 [some (.ref x0), some (.int x1), some (.int x2), none, none, none, none, none, none] [] M := by
  intro x0 x1 x2 M h
  exact seg_ok G P_RX12_ok T_X12_differ_ok hca (fun _ h => absurd h List.not_mem_nil) sw_X12_differ_ok krI_ok (kxN_ok (f := eI)) (List.forall_mem_cons.mpr ⟨kf_X12_differ_14 (ok_X12_differ_14 G hca F), fun _ h => absurd h List.not_mem_nil⟩) ((e_X12_differ_0 F (f_X12_differ_14 F F) x0 x1 x2 M).symm.trans h)
theorem c_X12_differ {q : cL} (hst : q.1.stackTraces = false) {D : Nat} (hD : 6 ≤ D) (F : Nat) (a0 : Nat) (a1 : Int32) (a2 : Int32) (M : cM) (r : Int32 × cM) (h : f_X12_differ F a0 a1 a2 M = some r) : CTx q yX12_differ (.code yX12_differ cX12_differ 9 (some .boolean)) D [.ref a0, .int a1, .int a2] M (eI r) ∧ ∃ fs, M[a0]? = some (.inr (10, fs)) := by
  unfold f_X12_differ at h
  split at h
  · next hi => exact ⟨CTx_of (own := RX12) (rk := 1) hst (by decide +kernel) rfl (rfl) (Nat.le_of_ble_eq_true rfl) (fun X hX G => by subst hX; exact ok_X12_differ_0 G (ca_X12_differ_ok hst hD F) a0 a1 a2 M h), isC_of hi⟩
  · cases h
def n_X12_differ {R' : Type} (f : Nat → Int32 → Int32 → cM → Option (Int32 × cM)) : cFn R' := fun as M κ κx => match as with
  | [.ref a0, .int a1, .int a2] => (f a0 a1 a2 M).bind fun p => κ (some (.int p.1)) p.2
  | _ => none
theorem w_X12_differ : ∀ w ∈ [Cond.instanceMethod yX12_differ, .selects yX12_differ.cls yX12_differ yX12_differ, .initialized yX12_differ.cls, .code yX12_differ cX12_differ 9 (some .boolean)], w ∈ lw_good := List.forall_mem_cons.mpr ⟨lw_good_of (tb_ok 1562 (by decide +kernel)) rfl, List.forall_mem_cons.mpr ⟨lw_good_of (ts_ok 67 (by decide +kernel)) rfl, List.forall_mem_cons.mpr ⟨lw_good_of (tb_ok 11 (by decide +kernel)) rfl, List.forall_mem_cons.mpr ⟨lw_good_of (tb_ok 1563 (by decide +kernel)) rfl, fun _ h => absurd h List.not_mem_nil⟩⟩⟩⟩
theorem n_X12_differ_ok {R' : Type} {q : cL} {own : String} {d k : Nat} {f : Nat → Int32 → Int32 → cM → Option (Int32 × cM)} (hl : Cond.methodLink own k yX12_differ ∈ lw_good) (hf : ∀ a0 a1 a2 M r, f a0 a1 a2 M = some r → CTx q yX12_differ (.code yX12_differ cX12_differ 9 (some .boolean)) d [.ref a0, .int a1, .int a2] M (eI r) ∧ ∃ fs, M[a0]? = some (.inr (10, fs))) : ceS q own d (3 * k + 1) (n_X12_differ (R' := R') f) := by
  intro as M κ κx r h
  unfold n_X12_differ at h
  split at h
  · obtain ⟨p, h1, h2⟩ := Option.bind_eq_some_iff.mp h
    obtain ⟨hc, fs, ha⟩ := hf _ _ _ _ _ h1
    exact ⟨eI p, fun _ => h2, fun hne => absurd rfl hne, Or.inr (Or.inl ⟨yX12_differ, cX12_differ, 9, (some .boolean), k, 2, _, _, 10, TX12, 76, fs, rfl, rfl, hc, ha, rfl, List.forall_mem_cons.mpr ⟨hl, w_X12_differ⟩, ⟨rfl, by decide +kernel, by decide +kernel, by decide +kernel⟩, rfl, by decide⟩)⟩
  · cases h
