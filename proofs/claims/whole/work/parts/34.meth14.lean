/-! METHODS, part 14 (laid by wip/whole/tools/gen.py) -/
-- PatchbayScriptModel.pinOf(I)I
def T_X12_pinOf : List cRow := [(0, .aload_n 0, 1, 0), (1, .getfield 58, 4, 0), (4, .iload_n 1, 5, 0), (5, .iaload, 6, 0), (6, .iconst (-1), 7, 0), (7, .if_icmp .ne 5, 10, 12), (10, .iconst (-1), 11, 0), (11, .ireturn, 12, 0), (12, .bipush (-2), 14, 0), (14, .istore_n 2, 15, 0), (15, .iconst 0, 16, 0), (16, .istore_n 3, 17, 0), (17, .iload_n 3, 18, 0), (18, .aload_n 0, 19, 0), (19, .getfield 296, 22, 0), (22, .if_icmp .ge 45, 25, 67), (25, .aload_n 0, 26, 0), (26, .getfield 58, 29, 0), (29, .iload_n 1, 30, 0), (30, .iaload, 31, 0), (31, .ifCond .ne 36, 34, 67), (34, .aload_n 0, 35, 0), (35, .aload_n 0, 36, 0), (36, .getfield 70, 39, 0), (39, .iconst 4, 40, 0), (40, .iload_n 1, 41, 0), (41, .imul, 42, 0), (42, .aload_n 0, 43, 0), (43, .getfield 61, 46, 0), (46, .iload_n 1, 47, 0), (47, .iaload, 48, 0), (48, .iload_n 3, 49, 0), (49, .invokevirtual 299, 52, 0), (52, .ifCond .ne 7, 55, 59), (55, .iload_n 3, 56, 0), (56, .goto 4, 59, 60), (59, .iload_n 2, 60, 0), (60, .istore_n 2, 61, 0), (61, .iinc 3 1, 64, 0), (64, .goto (-47), 67, 17), (67, .aload_n 0, 68, 0), (68, .getfield 58, 71, 0), (71, .iload_n 1, 72, 0), (72, .iaload, 73, 0), (73, .ifCond .ne 7, 76, 80), (76, .iload_n 2, 77, 0), (77, .goto 80, 80, 157), (80, .aload_n 0, 81, 0), (81, .getfield 58, 84, 0), (84, .iload_n 1, 85, 0), (85, .iaload, 86, 0), (86, .iconst 1, 87, 0), (87, .if_icmp .ne 36, 90, 123), (90, .aload_n 0, 91, 0), (91, .getfield 296, 94, 0), (94, .aload_n 0, 95, 0), (95, .getfield 61, 98, 0), (98, .iload_n 1, 99, 0), (99, .iaload, 100, 0), (100, .bipush 30, 102, 0), (102, .imul, 103, 0), (103, .aload_n 0, 104, 0), (104, .getfield 64, 107, 0), (107, .iload_n 1, 108, 0), (108, .iaload, 109, 0), (109, .iadd, 110, 0), (110, .iconst 4, 111, 0), (111, .imul, 112, 0), (112, .iadd, 113, 0), (113, .aload_n 0, 114, 0), (114, .getfield 67, 117, 0), (117, .iload_n 1, 118, 0), (118, .iaload, 119, 0), (119, .iadd, 120, 0), (120, .goto 37, 123, 157), (123, .aload_n 0, 124, 0), (124, .getfield 296, 127, 0), (127, .sipush 3600, 130, 0), (130, .iadd, 131, 0), (131, .aload_n 0, 132, 0), (132, .getfield 61, 135, 0), (135, .iload_n 1, 136, 0), (136, .iaload, 137, 0), (137, .iconst 3, 138, 0), (138, .imul, 139, 0), (139, .aload_n 0, 140, 0), (140, .getfield 64, 143, 0), (143, .iload_n 1, 144, 0), (144, .iaload, 145, 0), (145, .iadd, 146, 0), (146, .bipush 6, 148, 0), (148, .imul, 149, 0), (149, .iadd, 150, 0), (150, .aload_n 0, 151, 0), (151, .getfield 67, 154, 0), (154, .iload_n 1, 155, 0), (155, .iaload, 156, 0), (156, .iadd, 157, 0), (157, .ireturn, 158, 0)]
theorem T_X12_pinOf_ok : T_X12_pinOf.all (rowB cX12_pinOf) = true := by decide +kernel
def th_X12_pinOf : List (Nat × Nat) := []
def sw_X12_pinOf : List (Nat × (List (Int32 × Nat) × Nat)) := []
theorem sw_X12_pinOf_ok : ∀ q ∈ sw_X12_pinOf, swS cX12_pinOf q := fun _ h => absurd h List.not_mem_nil
def na_X12_pinOf : List (Nat × Nat) := [(898, 5)]
def ca_X12_pinOf {R' : Type} (F : Nat) : List (Nat × cFn R') := [(898, n_X12_compares (f_X12_compares F))]
theorem ca_X12_pinOf_ok {R' : Type} {q : cL} (hst : q.1.stackTraces = false) {D : Nat} (hD : 1 ≤ D) (F : Nat) : ∀ x ∈ (ca_X12_pinOf (R' := R') F), 1 ≤ D ∧ ceS q RX12 (D - 1) x.1 x.2 := List.forall_mem_cons.mpr ⟨⟨by omega, n_X12_compares_ok (k := 299) (lw_good_of (tb_ok 1466 (by decide +kernel)) rfl) (fun a0 a1 a2 a3 a4 M r h => c_X12_compares hst (by omega) F a0 a1 a2 a3 a4 M r h)⟩, fun _ h => absurd h List.not_mem_nil⟩
def kd_X12_pinOf_17 (g : Nat → Int32 → Int32 → Int32 → cM → Option (Int32 × cM)) : cKf (Int32 × cM) := fun vs st M => (lR vs 0).bind fun x0 => (lI vs 1).bind fun x1 => (lI vs 2).bind fun x2 => (lI vs 3).bind fun x3 => match st with
  | [] => g x0 x1 x2 x3 M
  | _ => none
theorem kf_X12_pinOf_17 {X : cCtx} {o : cO} {r : Int32 × cM} {g : Nat → Int32 → Int32 → Int32 → cM → Option (Int32 × cM)} (hg : ∀ x0 x1 x2 x3 M, g x0 x1 x2 x3 M = some r → WX X 4 o 17 [some (.ref x0), some (.int x1), some (.int x2), some (.int x3)] [] M) : ∀ vs st M, kd_X12_pinOf_17 g vs st M = some r → WX X 4 o 17 vs st M := by
  intro vs st M h
  unfold kd_X12_pinOf_17 at h
  obtain ⟨x0, h0, h⟩ := Option.bind_eq_some_iff.mp h
  obtain ⟨x1, h1, h⟩ := Option.bind_eq_some_iff.mp h
  obtain ⟨x2, h2, h⟩ := Option.bind_eq_some_iff.mp h
  obtain ⟨x3, h3, h⟩ := Option.bind_eq_some_iff.mp h
  split at h
  · exact WX_weak (hg _ _ _ _ _ h) rfl ⟨lR_of h0, lI_of h1, lI_of h2, lI_of h3, trivial⟩
  · cases h
def kd_X12_pinOf_67 (g : Nat → Int32 → Int32 → cM → Option (Int32 × cM)) : cKf (Int32 × cM) := fun vs st M => (lR vs 0).bind fun x0 => (lI vs 1).bind fun x1 => (lI vs 2).bind fun x2 => match st with
  | [] => g x0 x1 x2 M
  | _ => none
theorem kf_X12_pinOf_67 {X : cCtx} {o : cO} {r : Int32 × cM} {g : Nat → Int32 → Int32 → cM → Option (Int32 × cM)} (hg : ∀ x0 x1 x2 M, g x0 x1 x2 M = some r → WX X 4 o 67 [some (.ref x0), some (.int x1), some (.int x2), none] [] M) : ∀ vs st M, kd_X12_pinOf_67 g vs st M = some r → WX X 4 o 67 vs st M := by
  intro vs st M h
  unfold kd_X12_pinOf_67 at h
  obtain ⟨x0, h0, h⟩ := Option.bind_eq_some_iff.mp h
  obtain ⟨x1, h1, h⟩ := Option.bind_eq_some_iff.mp h
  obtain ⟨x2, h2, h⟩ := Option.bind_eq_some_iff.mp h
  split at h
  · exact WX_weak (hg _ _ _ _ h) rfl ⟨lR_of h0, lI_of h1, lI_of h2, trivial⟩
  · cases h
set_option maxRecDepth 20000 in
theorem e_X12_pinOf_67 (F : Nat) (x0 : Nat) (x1 : Int32) (x2 : Int32) (M : cM) : b_X12_pinOf_67 F x0 x1 x2 M = run T_X12_pinOf P_RX12 false 0 (naL na_X12_pinOf) (caL (ca_X12_pinOf F)) (lkN th_X12_pinOf) (lkN sw_X12_pinOf) krI kxN (spL []) (KL []) 102 67 [some (.ref x0), some (.int x1), some (.int x2), none] [] M := rfl
theorem ok_X12_pinOf_67 {X : cCtx} {D : Nat} {r : Int32 × cM} (G : FX X 4 (eI r) cX12_pinOf RX12 0 D) {F : Nat} (hca : ∀ x ∈ (ca_X12_pinOf (R' := Int32 × cM) F), 1 ≤ D ∧ ceS X.1 RX12 (D - 1) x.1 x.2) : ∀ x0 x1 x2 M, f_X12_pinOf_67 F x0 x1 x2 M = some r → WX X 4 (eI r) 67 [some (.ref x0), some (.int x1), some (.int x2), none] [] M := by
  intro x0 x1 x2 M h
  exact seg_ok G P_RX12_ok T_X12_pinOf_ok hca (fun _ h => absurd h List.not_mem_nil) sw_X12_pinOf_ok krI_ok (kxN_ok (f := eI)) (fun _ h => absurd h List.not_mem_nil) ((e_X12_pinOf_67 F x0 x1 x2 M).symm.trans h)
set_option maxRecDepth 20000 in
theorem e_X12_pinOf_17 (F : Nat) (t17 : Nat → Int32 → Int32 → Int32 → cM → Option (Int32 × cM)) (t67 : Nat → Int32 → Int32 → cM → Option (Int32 × cM)) (x0 : Nat) (x1 : Int32) (x2 : Int32) (x3 : Int32) (M : cM) : b_X12_pinOf_17 F t17 t67 x0 x1 x2 x3 M = run T_X12_pinOf P_RX12 false 0 (naL na_X12_pinOf) (caL (ca_X12_pinOf F)) (lkN th_X12_pinOf) (lkN sw_X12_pinOf) krI kxN (spL [17, 67]) (KL [(17, kd_X12_pinOf_17 t17), (67, kd_X12_pinOf_67 t67)]) 102 17 [some (.ref x0), some (.int x1), some (.int x2), some (.int x3)] [] M := rfl
theorem ok_X12_pinOf_17 {X : cCtx} {D : Nat} {r : Int32 × cM} (G : FX X 4 (eI r) cX12_pinOf RX12 0 D) {F : Nat} (hca : ∀ x ∈ (ca_X12_pinOf (R' := Int32 × cM) F), 1 ≤ D ∧ ceS X.1 RX12 (D - 1) x.1 x.2) (n : Nat) : ∀ x0 x1 x2 x3 M, f_X12_pinOf_17 F n x0 x1 x2 x3 M = some r → WX X 4 (eI r) 17 [some (.ref x0), some (.int x1), some (.int x2), some (.int x3)] [] M := by
  induction n with
  | zero => intro x0 x1 x2 x3 M h; cases h
  | succ n ih =>
    intro x0 x1 x2 x3 M h
    exact seg_ok G P_RX12_ok T_X12_pinOf_ok hca (fun _ h => absurd h List.not_mem_nil) sw_X12_pinOf_ok krI_ok (kxN_ok (f := eI)) (List.forall_mem_cons.mpr ⟨kf_X12_pinOf_17 (ih), List.forall_mem_cons.mpr ⟨kf_X12_pinOf_67 (ok_X12_pinOf_67 G hca), fun _ h => absurd h List.not_mem_nil⟩⟩) ((e_X12_pinOf_17 F (f_X12_pinOf_17 F n) (f_X12_pinOf_67 F) x0 x1 x2 x3 M).symm.trans h)
set_option maxRecDepth 20000 in
theorem e_X12_pinOf_0 (F : Nat) (t17 : Nat → Int32 → Int32 → Int32 → cM → Option (Int32 × cM)) (x0 : Nat) (x1 : Int32) (M : cM) : b_X12_pinOf_0 F t17 x0 x1 M = run T_X12_pinOf P_RX12 false 0 (naL na_X12_pinOf) (caL (ca_X12_pinOf F)) (lkN th_X12_pinOf) (lkN sw_X12_pinOf) krI kxN (spL [17]) (KL [(17, kd_X12_pinOf_17 t17)]) 102 0 [some (.ref x0), some (.int x1), none, none] [] M := rfl
theorem ok_X12_pinOf_0 {X : cCtx} {D : Nat} {r : Int32 × cM} (G : FX X 4 (eI r) cX12_pinOf RX12 0 D) {F : Nat} (hca : ∀ x ∈ (ca_X12_pinOf (R' := Int32 × cM) F), 1 ≤ D ∧ ceS X.1 RX12 (D - 1) x.1 x.2) : ∀ x0 x1 M, f_X12_pinOf_0 F x0 x1 M = some r → WX X 4 (eI r) 0 [some (.ref x0), some (.int x1), none, none] [] M := by
  intro x0 x1 M h
  exact seg_ok G P_RX12_ok T_X12_pinOf_ok hca (fun _ h => absurd h List.not_mem_nil) sw_X12_pinOf_ok krI_ok (kxN_ok (f := eI)) (List.forall_mem_cons.mpr ⟨kf_X12_pinOf_17 (ok_X12_pinOf_17 G hca F), fun _ h => absurd h List.not_mem_nil⟩) ((e_X12_pinOf_0 F (f_X12_pinOf_17 F F) x0 x1 M).symm.trans h)
theorem c_X12_pinOf {q : cL} (hst : q.1.stackTraces = false) {D : Nat} (hD : 1 ≤ D) (F : Nat) (a0 : Nat) (a1 : Int32) (M : cM) (r : Int32 × cM) (h : f_X12_pinOf F a0 a1 M = some r) : CTx q yX12_pinOf (.code yX12_pinOf cX12_pinOf 4 (some .int)) D [.ref a0, .int a1] M (eI r) ∧ ∃ fs, M[a0]? = some (.inr (10, fs)) := by
  unfold f_X12_pinOf at h
  split at h
  · next hi => exact ⟨CTx_of (own := RX12) (rk := 0) hst (by decide +kernel) rfl (rfl) (Nat.le_of_ble_eq_true rfl) (fun X hX G => by subst hX; exact ok_X12_pinOf_0 G (ca_X12_pinOf_ok hst hD F) a0 a1 M h), isC_of hi⟩
  · cases h
def n_X12_pinOf {R' : Type} (f : Nat → Int32 → cM → Option (Int32 × cM)) : cFn R' := fun as M κ κx => match as with
  | [.ref a0, .int a1] => (f a0 a1 M).bind fun p => κ (some (.int p.1)) p.2
  | _ => none
theorem w_X12_pinOf : ∀ w ∈ [Cond.instanceMethod yX12_pinOf, .selects yX12_pinOf.cls yX12_pinOf yX12_pinOf, .initialized yX12_pinOf.cls, .code yX12_pinOf cX12_pinOf 4 (some .int)], w ∈ lw_good := List.forall_mem_cons.mpr ⟨lw_good_of (tb_ok 1482 (by decide +kernel)) rfl, List.forall_mem_cons.mpr ⟨lw_good_of (ts_ok 50 (by decide +kernel)) rfl, List.forall_mem_cons.mpr ⟨lw_good_of (tb_ok 11 (by decide +kernel)) rfl, List.forall_mem_cons.mpr ⟨lw_good_of (tb_ok 1483 (by decide +kernel)) rfl, fun _ h => absurd h List.not_mem_nil⟩⟩⟩⟩
theorem n_X12_pinOf_ok {R' : Type} {q : cL} {own : String} {d k : Nat} {f : Nat → Int32 → cM → Option (Int32 × cM)} (hl : Cond.methodLink own k yX12_pinOf ∈ lw_good) (hf : ∀ a0 a1 M r, f a0 a1 M = some r → CTx q yX12_pinOf (.code yX12_pinOf cX12_pinOf 4 (some .int)) d [.ref a0, .int a1] M (eI r) ∧ ∃ fs, M[a0]? = some (.inr (10, fs))) : ceS q own d (3 * k + 1) (n_X12_pinOf (R' := R') f) := by
  intro as M κ κx r h
  unfold n_X12_pinOf at h
  split at h
  · obtain ⟨p, h1, h2⟩ := Option.bind_eq_some_iff.mp h
    obtain ⟨hc, fs, ha⟩ := hf _ _ _ _ h1
    exact ⟨eI p, fun _ => h2, fun hne => absurd rfl hne, Or.inr (Or.inl ⟨yX12_pinOf, cX12_pinOf, 4, (some .int), k, 1, _, _, 10, TX12, 76, fs, rfl, rfl, hc, ha, rfl, List.forall_mem_cons.mpr ⟨hl, w_X12_pinOf⟩, ⟨rfl, by decide +kernel, by decide +kernel, by decide +kernel⟩, rfl, by decide⟩)⟩
  · cases h
-- PatchbayScriptModel.gathers(I)V
def T_X12_gathers : List cRow := [(0, .aload_n 0, 1, 0), (1, .iload_n 1, 2, 0), (2, .putfield 303, 5, 0), (5, .aload_n 0, 6, 0), (6, .iconst 0, 7, 0), (7, .putfield 296, 10, 0), (10, .iconst 4, 11, 0), (11, .iload_n 1, 12, 0), (12, .imul, 13, 0), (13, .istore_n 2, 14, 0), (14, .iload_n 2, 15, 0), (15, .iconst 4, 16, 0), (16, .iload_n 1, 17, 0), (17, .imul, 18, 0), (18, .aload_n 0, 19, 0), (19, .getfield 25, 22, 0), (22, .iload_n 1, 23, 0), (23, .iaload, 24, 0), (24, .iadd, 25, 0), (25, .if_icmp .ge 60, 28, 85), (28, .iconst 1, 29, 0), (29, .istore_n 3, 30, 0), (30, .iload_n 3, 31, 0), (31, .iconst 4, 32, 0), (32, .if_icmp .gt 47, 35, 79), (35, .iconst 0, 36, 0), (36, .istore 4, 38, 0), (38, .iload 4, 40, 0), (40, .iload_n 3, 41, 0), (41, .iadd, 42, 0), (42, .aload_n 0, 43, 0), (43, .getfield 40, 46, 0), (46, .iload_n 2, 47, 0), (47, .iaload, 48, 0), (48, .if_icmp .gt 25, 51, 73), (51, .aload_n 0, 52, 0), (52, .aload_n 0, 53, 0), (53, .getfield 37, 56, 0), (56, .bipush 20, 58, 0), (58, .iload_n 2, 59, 0), (59, .imul, 60, 0), (60, .iload 4, 62, 0), (62, .iadd, 63, 0), (63, .iload_n 3, 64, 0), (64, .invokevirtual 306, 67, 0), (67, .iinc 4 1, 70, 0), (70, .goto (-32), 73, 38), (73, .iinc 3 1, 76, 0), (76, .goto (-46), 79, 30), (79, .iinc 2 1, 82, 0), (82, .goto (-68), 85, 14), (85, .aload_n 0, 86, 0), (86, .aload_n 0, 87, 0), (87, .getfield 296, 90, 0), (90, .sipush 3600, 93, 0), (93, .iadd, 94, 0), (94, .bipush 72, 96, 0), (96, .iadd, 97, 0), (97, .putfield 309, 100, 0), (100, .iconst 0, 101, 0), (101, .istore_n 2, 102, 0), (102, .iload_n 2, 103, 0), (103, .aload_n 0, 104, 0), (104, .getfield 25, 107, 0), (107, .iload_n 1, 108, 0), (108, .iaload, 109, 0), (109, .if_icmp .ge 184, 112, 293), (112, .aload_n 0, 113, 0), (113, .aload_n 0, 114, 0), (114, .getfield 31, 117, 0), (117, .bipush 20, 119, 0), (119, .iconst 4, 120, 0), (120, .iload_n 1, 121, 0), (121, .imul, 122, 0), (122, .iload_n 2, 123, 0), (123, .iadd, 124, 0), (124, .imul, 125, 0), (125, .aload_n 0, 126, 0), (126, .getfield 34, 129, 0), (129, .iconst 4, 130, 0), (130, .iload_n 1, 131, 0), (131, .imul, 132, 0), (132, .iload_n 2, 133, 0), (133, .iadd, 134, 0), (134, .iaload, 135, 0), (135, .invokevirtual 259, 138, 0), (138, .iconst 0, 139, 0), (139, .istore_n 3, 140, 0), (140, .iload_n 3, 141, 0), (141, .aload_n 0, 142, 0), (142, .getfield 309, 145, 0), (145, .if_icmp .ge 142, 148, 287), (148, .aload_n 0, 149, 0), (149, .iconst 0, 150, 0), (150, .putfield 228, 153, 0), (153, .iconst 1, 154, 0), (154, .istore 4, 156, 0), (156, .iload_n 3, 157, 0), (157, .aload_n 0, 158, 0), (158, .getfield 296, 161, 0), (161, .isub, 162, 0), (162, .istore 5, 164, 0), (164, .iload 5, 166, 0), (166, .ifCond .ge 41, 169, 207), (169, .iconst 0, 170, 0), (170, .istore 6, 172, 0), (172, .iload 6, 174, 0), (174, .aload_n 0, 175, 0), (175, .getfield 131, 178, 0), (178, .iload_n 3, 179, 0), (179, .iaload, 180, 0), (180, .if_icmp .ge 24, 183, 204), (183, .aload_n 0, 184, 0), (184, .aload_n 0, 185, 0), (185, .getfield 128, 188, 0), (188, .iconst 4, 189, 0), (189, .iload_n 3, 190, 0), (190, .imul, 191, 0), (191, .iload 6, 193, 0), (193, .iadd, 194, 0), (194, .iaload, 195, 0), (195, .invokevirtual 240, 198, 0), (198, .iinc 6 1, 201, 0), (201, .goto (-29), 204, 172), (204, .goto 69, 207, 273), (207, .iload 5, 209, 0), (209, .sipush 3600, 212, 0), (212, .if_icmp .ge 26, 215, 238), (215, .aload_n 0, 216, 0), (216, .iload 5, 218, 0), (218, .bipush 120, 220, 0), (220, .idiv, 221, 0), (221, .iload 5, 223, 0), (223, .iconst 4, 224, 0), (224, .idiv, 225, 0), (225, .bipush 30, 227, 0), (227, .irem, 228, 0), (228, .iload 5, 230, 0), (230, .iconst 4, 231, 0), (231, .irem, 232, 0), (232, .invokevirtual 247, 235, 0), (235, .goto 36, 238, 271), (238, .aload_n 0, 239, 0), (239, .iload 5, 241, 0), (241, .sipush 3600, 244, 0), (244, .isub, 245, 0), (245, .bipush 18, 247, 0), (247, .idiv, 248, 0), (248, .iload 5, 250, 0), (250, .sipush 3600, 253, 0), (253, .isub, 254, 0), (254, .bipush 6, 256, 0), (256, .idiv, 257, 0), (257, .iconst 3, 258, 0), (258, .irem, 259, 0), (259, .iload 5, 261, 0), (261, .sipush 3600, 264, 0), (264, .isub, 265, 0), (265, .bipush 6, 267, 0), (267, .irem, 268, 0), (268, .invokevirtual 250, 271, 0), (271, .istore 4, 273, 0), (273, .aload_n 0, 274, 0), (274, .iload_n 2, 275, 0), (275, .iload_n 3, 276, 0), (276, .iload 4, 278, 0), (278, .invokevirtual 312, 281, 0), (281, .iinc 3 1, 284, 0), (284, .goto (-144), 287, 140), (287, .iinc 2 1, 290, 0), (290, .goto (-188), 293, 102), (293, .iconst 0, 294, 0), (294, .istore_n 2, 295, 0), (295, .iload_n 2, 296, 0), (296, .aload_n 0, 297, 0), (297, .getfield 309, 300, 0), (300, .if_icmp .ge 91, 303, 391), (303, .iload_n 2, 304, 0), (304, .aload_n 0, 305, 0), (305, .getfield 296, 308, 0), (308, .isub, 309, 0), (309, .istore_n 3, 310, 0), (310, .aload_n 0, 311, 0), (311, .getfield 140, 314, 0), (314, .iload_n 2, 315, 0), (315, .iload_n 3, 316, 0), (316, .ifCond .ge 18, 319, 334), (319, .iconst 0, 320, 0), (320, .aload_n 0, 321, 0), (321, .getfield 131, 324, 0), (324, .iload_n 2, 325, 0), (325, .iaload, 326, 0), (326, .iconst 0, 327, 0), (327, .iconst 0, 328, 0), (328, .invokestatic 316, 331, 0), (331, .goto 53, 334, 384), (334, .iload_n 3, 335, 0), (335, .sipush 3600, 338, 0), (338, .if_icmp .ge 23, 341, 361), (341, .iconst 1, 342, 0), (342, .iload_n 3, 343, 0), (343, .bipush 120, 345, 0), (345, .idiv, 346, 0), (346, .iload_n 3, 347, 0), (347, .iconst 4, 348, 0), (348, .idiv, 349, 0), (349, .bipush 30, 351, 0), (351, .irem, 352, 0), (352, .iload_n 3, 353, 0), (353, .iconst 4, 354, 0), (354, .irem, 355, 0), (355, .invokestatic 316, 358, 0), (358, .goto 26, 361, 384), (361, .iconst 2, 362, 0), (362, .iconst 0, 363, 0), (363, .iload_n 3, 364, 0), (364, .sipush 3600, 367, 0), (367, .isub, 368, 0), (368, .bipush 6, 370, 0), (370, .idiv, 371, 0), (371, .iconst 3, 372, 0), (372, .irem, 373, 0), (373, .iload_n 3, 374, 0), (374, .sipush 3600, 377, 0), (377, .isub, 378, 0), (378, .bipush 6, 380, 0), (380, .irem, 381, 0), (381, .invokestatic 316, 384, 0), (384, .iastore, 385, 0), (385, .iinc 2 1, 388, 0), (388, .goto (-93), 391, 295), (391, .iconst 0, 392, 0), (392, .istore_n 2, 393, 0), (393, .iload_n 2, 394, 0), (394, .iconst 4, 395, 0), (395, .if_icmp .ge 24, 398, 419), (398, .aload_n 0, 399, 0), (399, .getfield 169, 402, 0), (402, .iload_n 2, 403, 0), (403, .aload_n 0, 404, 0), (404, .iconst 4, 405, 0), (405, .iload_n 1, 406, 0), (406, .imul, 407, 0), (407, .iload_n 2, 408, 0), (408, .iadd, 409, 0), (409, .invokevirtual 320, 412, 0), (412, .iastore, 413, 0), (413, .iinc 2 1, 416, 0), (416, .goto (-23), 419, 393), (419, .return_, 420, 0)]
theorem T_X12_gathers_ok : T_X12_gathers.all (rowB cX12_gathers) = true := by decide +kernel
def th_X12_gathers : List (Nat × Nat) := []
def sw_X12_gathers : List (Nat × (List (Int32 × Nat) × Nat)) := []
theorem sw_X12_gathers_ok : ∀ q ∈ sw_X12_gathers, swS cX12_gathers q := fun _ h => absurd h List.not_mem_nil
def na_X12_gathers : List (Nat × Nat) := [(919, 4), (778, 4), (721, 2), (742, 4), (751, 4), (937, 4), (948, 4), (961, 2)]
def ca_X12_gathers {R' : Type} (F : Nat) : List (Nat × cFn R') := [(919, n_X12_addsConst (f_X12_addsConst F)), (778, n_X12_takes (f_X12_takes F)), (721, n_X12_adds (f_X12_adds F)), (742, n_X12_cuts (f_X12_cuts F)), (751, n_X12_eachs (f_X12_eachs F)), (937, n_X12_matches (f_X12_matches F)), (948, n_X12_atomWeight (f_X12_atomWeight F)), (961, n_X12_pinOf (f_X12_pinOf F))]
theorem ca_X12_gathers_ok {R' : Type} {q : cL} (hst : q.1.stackTraces = false) {D : Nat} (hD : 5 ≤ D) (F : Nat) : ∀ x ∈ (ca_X12_gathers (R' := R') F), 1 ≤ D ∧ ceS q RX12 (D - 1) x.1 x.2 := List.forall_mem_cons.mpr ⟨⟨by omega, n_X12_addsConst_ok (k := 306) (lw_good_of (tb_ok 1462 (by decide +kernel)) rfl) (fun a0 a1 a2 a3 M r h => c_X12_addsConst hst (by omega) F a0 a1 a2 a3 M r h)⟩, List.forall_mem_cons.mpr ⟨⟨by omega, n_X12_takes_ok (k := 259) (lw_good_of (tb_ok 1367 (by decide +kernel)) rfl) (fun a0 a1 a2 a3 M r h => c_X12_takes hst (by omega) F a0 a1 a2 a3 M r h)⟩, List.forall_mem_cons.mpr ⟨⟨by omega, n_X12_adds_ok (k := 240) (lw_good_of (tb_ok 1393 (by decide +kernel)) rfl) (fun a0 a1 M r h => c_X12_adds hst (by omega) F a0 a1 M r h)⟩, List.forall_mem_cons.mpr ⟨⟨by omega, n_X12_cuts_ok (k := 247) (lw_good_of (tb_ok 1397 (by decide +kernel)) rfl) (fun a0 a1 a2 a3 M r h => c_X12_cuts hst (by omega) F a0 a1 a2 a3 M r h)⟩, List.forall_mem_cons.mpr ⟨⟨by omega, n_X12_eachs_ok (k := 250) (lw_good_of (tb_ok 1411 (by decide +kernel)) rfl) (fun a0 a1 a2 a3 M r h => c_X12_eachs hst (by omega) F a0 a1 a2 a3 M r h)⟩, List.forall_mem_cons.mpr ⟨⟨by omega, n_X12_matches_ok (k := 312) (lw_good_of (tb_ok 1470 (by decide +kernel)) rfl) (fun a0 a1 a2 a3 M r h => c_X12_matches hst (by omega) F a0 a1 a2 a3 M r h)⟩, List.forall_mem_cons.mpr ⟨⟨by omega, n_X12_atomWeight_ok (k := 316) (lw_good_of (tb_ok 1474 (by decide +kernel)) rfl) (fun a0 a1 a2 a3 M r h => c_X12_atomWeight hst (by omega) F a0 a1 a2 a3 M r h)⟩, List.forall_mem_cons.mpr ⟨⟨by omega, n_X12_pinOf_ok (k := 320) (lw_good_of (tb_ok 1480 (by decide +kernel)) rfl) (fun a0 a1 M r h => c_X12_pinOf hst (by omega) F a0 a1 M r h)⟩, fun _ h => absurd h List.not_mem_nil⟩⟩⟩⟩⟩⟩⟩⟩
def kd_X12_gathers_14 (g : Nat → Int32 → Int32 → cM → Option (cM)) : cKf (cM) := fun vs st M => (lR vs 0).bind fun x0 => (lI vs 1).bind fun x1 => (lI vs 2).bind fun x2 => match st with
  | [] => g x0 x1 x2 M
  | _ => none
theorem kf_X12_gathers_14 {X : cCtx} {o : cO} {r : cM} {g : Nat → Int32 → Int32 → cM → Option (cM)} (hg : ∀ x0 x1 x2 M, g x0 x1 x2 M = some r → WX X 7 o 14 [some (.ref x0), some (.int x1), some (.int x2), none, none, none, none] [] M) : ∀ vs st M, kd_X12_gathers_14 g vs st M = some r → WX X 7 o 14 vs st M := by
  intro vs st M h
  unfold kd_X12_gathers_14 at h
  obtain ⟨x0, h0, h⟩ := Option.bind_eq_some_iff.mp h
  obtain ⟨x1, h1, h⟩ := Option.bind_eq_some_iff.mp h
  obtain ⟨x2, h2, h⟩ := Option.bind_eq_some_iff.mp h
  split at h
  · exact WX_weak (hg _ _ _ _ h) rfl ⟨lR_of h0, lI_of h1, lI_of h2, trivial⟩
  · cases h
def kd_X12_gathers_30 (g : Nat → Int32 → Int32 → Int32 → cM → Option (cM)) : cKf (cM) := fun vs st M => (lR vs 0).bind fun x0 => (lI vs 1).bind fun x1 => (lI vs 2).bind fun x2 => (lI vs 3).bind fun x3 => match st with
  | [] => g x0 x1 x2 x3 M
  | _ => none
theorem kf_X12_gathers_30 {X : cCtx} {o : cO} {r : cM} {g : Nat → Int32 → Int32 → Int32 → cM → Option (cM)} (hg : ∀ x0 x1 x2 x3 M, g x0 x1 x2 x3 M = some r → WX X 7 o 30 [some (.ref x0), some (.int x1), some (.int x2), some (.int x3), none, none, none] [] M) : ∀ vs st M, kd_X12_gathers_30 g vs st M = some r → WX X 7 o 30 vs st M := by
  intro vs st M h
  unfold kd_X12_gathers_30 at h
  obtain ⟨x0, h0, h⟩ := Option.bind_eq_some_iff.mp h
  obtain ⟨x1, h1, h⟩ := Option.bind_eq_some_iff.mp h
  obtain ⟨x2, h2, h⟩ := Option.bind_eq_some_iff.mp h
  obtain ⟨x3, h3, h⟩ := Option.bind_eq_some_iff.mp h
  split at h
  · exact WX_weak (hg _ _ _ _ _ h) rfl ⟨lR_of h0, lI_of h1, lI_of h2, lI_of h3, trivial⟩
  · cases h
def kd_X12_gathers_38 (g : Nat → Int32 → Int32 → Int32 → Int32 → cM → Option (cM)) : cKf (cM) := fun vs st M => (lR vs 0).bind fun x0 => (lI vs 1).bind fun x1 => (lI vs 2).bind fun x2 => (lI vs 3).bind fun x3 => (lI vs 4).bind fun x4 => match st with
  | [] => g x0 x1 x2 x3 x4 M
  | _ => none
theorem kf_X12_gathers_38 {X : cCtx} {o : cO} {r : cM} {g : Nat → Int32 → Int32 → Int32 → Int32 → cM → Option (cM)} (hg : ∀ x0 x1 x2 x3 x4 M, g x0 x1 x2 x3 x4 M = some r → WX X 7 o 38 [some (.ref x0), some (.int x1), some (.int x2), some (.int x3), some (.int x4), none, none] [] M) : ∀ vs st M, kd_X12_gathers_38 g vs st M = some r → WX X 7 o 38 vs st M := by
  intro vs st M h
  unfold kd_X12_gathers_38 at h
  obtain ⟨x0, h0, h⟩ := Option.bind_eq_some_iff.mp h
  obtain ⟨x1, h1, h⟩ := Option.bind_eq_some_iff.mp h
  obtain ⟨x2, h2, h⟩ := Option.bind_eq_some_iff.mp h
  obtain ⟨x3, h3, h⟩ := Option.bind_eq_some_iff.mp h
  obtain ⟨x4, h4, h⟩ := Option.bind_eq_some_iff.mp h
  split at h
  · exact WX_weak (hg _ _ _ _ _ _ h) rfl ⟨lR_of h0, lI_of h1, lI_of h2, lI_of h3, lI_of h4, trivial⟩
  · cases h
def kd_X12_gathers_102 (g : Nat → Int32 → Int32 → cM → Option (cM)) : cKf (cM) := fun vs st M => (lR vs 0).bind fun x0 => (lI vs 1).bind fun x1 => (lI vs 2).bind fun x2 => match st with
  | [] => g x0 x1 x2 M
  | _ => none
theorem kf_X12_gathers_102 {X : cCtx} {o : cO} {r : cM} {g : Nat → Int32 → Int32 → cM → Option (cM)} (hg : ∀ x0 x1 x2 M, g x0 x1 x2 M = some r → WX X 7 o 102 [some (.ref x0), some (.int x1), some (.int x2), none, none, none, none] [] M) : ∀ vs st M, kd_X12_gathers_102 g vs st M = some r → WX X 7 o 102 vs st M := by
  intro vs st M h
  unfold kd_X12_gathers_102 at h
  obtain ⟨x0, h0, h⟩ := Option.bind_eq_some_iff.mp h
  obtain ⟨x1, h1, h⟩ := Option.bind_eq_some_iff.mp h
  obtain ⟨x2, h2, h⟩ := Option.bind_eq_some_iff.mp h
  split at h
  · exact WX_weak (hg _ _ _ _ h) rfl ⟨lR_of h0, lI_of h1, lI_of h2, trivial⟩
  · cases h
def kd_X12_gathers_140 (g : Nat → Int32 → Int32 → Int32 → cM → Option (cM)) : cKf (cM) := fun vs st M => (lR vs 0).bind fun x0 => (lI vs 1).bind fun x1 => (lI vs 2).bind fun x2 => (lI vs 3).bind fun x3 => match st with
  | [] => g x0 x1 x2 x3 M
  | _ => none
theorem kf_X12_gathers_140 {X : cCtx} {o : cO} {r : cM} {g : Nat → Int32 → Int32 → Int32 → cM → Option (cM)} (hg : ∀ x0 x1 x2 x3 M, g x0 x1 x2 x3 M = some r → WX X 7 o 140 [some (.ref x0), some (.int x1), some (.int x2), some (.int x3), none, none, none] [] M) : ∀ vs st M, kd_X12_gathers_140 g vs st M = some r → WX X 7 o 140 vs st M := by
  intro vs st M h
  unfold kd_X12_gathers_140 at h
  obtain ⟨x0, h0, h⟩ := Option.bind_eq_some_iff.mp h
  obtain ⟨x1, h1, h⟩ := Option.bind_eq_some_iff.mp h
  obtain ⟨x2, h2, h⟩ := Option.bind_eq_some_iff.mp h
  obtain ⟨x3, h3, h⟩ := Option.bind_eq_some_iff.mp h
  split at h
  · exact WX_weak (hg _ _ _ _ _ h) rfl ⟨lR_of h0, lI_of h1, lI_of h2, lI_of h3, trivial⟩
  · cases h
def kd_X12_gathers_172 (g : Nat → Int32 → Int32 → Int32 → Int32 → Int32 → cM → Option (cM)) : cKf (cM) := fun vs st M => (lR vs 0).bind fun x0 => (lI vs 1).bind fun x1 => (lI vs 2).bind fun x2 => (lI vs 3).bind fun x3 => (lI vs 4).bind fun x4 => (lI vs 6).bind fun x6 => match st with
  | [] => g x0 x1 x2 x3 x4 x6 M
  | _ => none
theorem kf_X12_gathers_172 {X : cCtx} {o : cO} {r : cM} {g : Nat → Int32 → Int32 → Int32 → Int32 → Int32 → cM → Option (cM)} (hg : ∀ x0 x1 x2 x3 x4 x6 M, g x0 x1 x2 x3 x4 x6 M = some r → WX X 7 o 172 [some (.ref x0), some (.int x1), some (.int x2), some (.int x3), some (.int x4), none, some (.int x6)] [] M) : ∀ vs st M, kd_X12_gathers_172 g vs st M = some r → WX X 7 o 172 vs st M := by
  intro vs st M h
  unfold kd_X12_gathers_172 at h
  obtain ⟨x0, h0, h⟩ := Option.bind_eq_some_iff.mp h
  obtain ⟨x1, h1, h⟩ := Option.bind_eq_some_iff.mp h
  obtain ⟨x2, h2, h⟩ := Option.bind_eq_some_iff.mp h
  obtain ⟨x3, h3, h⟩ := Option.bind_eq_some_iff.mp h
  obtain ⟨x4, h4, h⟩ := Option.bind_eq_some_iff.mp h
  obtain ⟨x6, h6, h⟩ := Option.bind_eq_some_iff.mp h
  split at h
  · exact WX_weak (hg _ _ _ _ _ _ _ h) rfl ⟨lR_of h0, lI_of h1, lI_of h2, lI_of h3, lI_of h4, lI_of h6, trivial⟩
  · cases h
def kd_X12_gathers_215 (g : Nat → Int32 → Int32 → Int32 → Int32 → cM → Option (cM)) : cKf (cM) := fun vs st M => (lR vs 0).bind fun x0 => (lI vs 1).bind fun x1 => (lI vs 2).bind fun x2 => (lI vs 3).bind fun x3 => (lI vs 5).bind fun x5 => match st with
  | [] => g x0 x1 x2 x3 x5 M
  | _ => none
theorem kf_X12_gathers_215 {X : cCtx} {o : cO} {r : cM} {g : Nat → Int32 → Int32 → Int32 → Int32 → cM → Option (cM)} (hg : ∀ x0 x1 x2 x3 x5 M, g x0 x1 x2 x3 x5 M = some r → WX X 7 o 215 [some (.ref x0), some (.int x1), some (.int x2), some (.int x3), none, some (.int x5), none] [] M) : ∀ vs st M, kd_X12_gathers_215 g vs st M = some r → WX X 7 o 215 vs st M := by
  intro vs st M h
  unfold kd_X12_gathers_215 at h
  obtain ⟨x0, h0, h⟩ := Option.bind_eq_some_iff.mp h
  obtain ⟨x1, h1, h⟩ := Option.bind_eq_some_iff.mp h
  obtain ⟨x2, h2, h⟩ := Option.bind_eq_some_iff.mp h
  obtain ⟨x3, h3, h⟩ := Option.bind_eq_some_iff.mp h
  obtain ⟨x5, h5, h⟩ := Option.bind_eq_some_iff.mp h
  split at h
  · exact WX_weak (hg _ _ _ _ _ _ h) rfl ⟨lR_of h0, lI_of h1, lI_of h2, lI_of h3, lI_of h5, trivial⟩
  · cases h
def kd_X12_gathers_238 (g : Nat → Int32 → Int32 → Int32 → Int32 → cM → Option (cM)) : cKf (cM) := fun vs st M => (lR vs 0).bind fun x0 => (lI vs 1).bind fun x1 => (lI vs 2).bind fun x2 => (lI vs 3).bind fun x3 => (lI vs 5).bind fun x5 => match st with
  | [] => g x0 x1 x2 x3 x5 M
  | _ => none
theorem kf_X12_gathers_238 {X : cCtx} {o : cO} {r : cM} {g : Nat → Int32 → Int32 → Int32 → Int32 → cM → Option (cM)} (hg : ∀ x0 x1 x2 x3 x5 M, g x0 x1 x2 x3 x5 M = some r → WX X 7 o 238 [some (.ref x0), some (.int x1), some (.int x2), some (.int x3), none, some (.int x5), none] [] M) : ∀ vs st M, kd_X12_gathers_238 g vs st M = some r → WX X 7 o 238 vs st M := by
  intro vs st M h
  unfold kd_X12_gathers_238 at h
  obtain ⟨x0, h0, h⟩ := Option.bind_eq_some_iff.mp h
  obtain ⟨x1, h1, h⟩ := Option.bind_eq_some_iff.mp h
  obtain ⟨x2, h2, h⟩ := Option.bind_eq_some_iff.mp h
  obtain ⟨x3, h3, h⟩ := Option.bind_eq_some_iff.mp h
  obtain ⟨x5, h5, h⟩ := Option.bind_eq_some_iff.mp h
  split at h
  · exact WX_weak (hg _ _ _ _ _ _ h) rfl ⟨lR_of h0, lI_of h1, lI_of h2, lI_of h3, lI_of h5, trivial⟩
  · cases h
def kd_X12_gathers_295 (g : Nat → Int32 → Int32 → cM → Option (cM)) : cKf (cM) := fun vs st M => (lR vs 0).bind fun x0 => (lI vs 1).bind fun x1 => (lI vs 2).bind fun x2 => match st with
  | [] => g x0 x1 x2 M
  | _ => none
theorem kf_X12_gathers_295 {X : cCtx} {o : cO} {r : cM} {g : Nat → Int32 → Int32 → cM → Option (cM)} (hg : ∀ x0 x1 x2 M, g x0 x1 x2 M = some r → WX X 7 o 295 [some (.ref x0), some (.int x1), some (.int x2), none, none, none, none] [] M) : ∀ vs st M, kd_X12_gathers_295 g vs st M = some r → WX X 7 o 295 vs st M := by
  intro vs st M h
  unfold kd_X12_gathers_295 at h
  obtain ⟨x0, h0, h⟩ := Option.bind_eq_some_iff.mp h
  obtain ⟨x1, h1, h⟩ := Option.bind_eq_some_iff.mp h
  obtain ⟨x2, h2, h⟩ := Option.bind_eq_some_iff.mp h
  split at h
  · exact WX_weak (hg _ _ _ _ h) rfl ⟨lR_of h0, lI_of h1, lI_of h2, trivial⟩
  · cases h
def kd_X12_gathers_393 (g : Nat → Int32 → Int32 → cM → Option (cM)) : cKf (cM) := fun vs st M => (lR vs 0).bind fun x0 => (lI vs 1).bind fun x1 => (lI vs 2).bind fun x2 => match st with
  | [] => g x0 x1 x2 M
  | _ => none
theorem kf_X12_gathers_393 {X : cCtx} {o : cO} {r : cM} {g : Nat → Int32 → Int32 → cM → Option (cM)} (hg : ∀ x0 x1 x2 M, g x0 x1 x2 M = some r → WX X 7 o 393 [some (.ref x0), some (.int x1), some (.int x2), none, none, none, none] [] M) : ∀ vs st M, kd_X12_gathers_393 g vs st M = some r → WX X 7 o 393 vs st M := by
  intro vs st M h
  unfold kd_X12_gathers_393 at h
  obtain ⟨x0, h0, h⟩ := Option.bind_eq_some_iff.mp h
  obtain ⟨x1, h1, h⟩ := Option.bind_eq_some_iff.mp h
  obtain ⟨x2, h2, h⟩ := Option.bind_eq_some_iff.mp h
  split at h
  · exact WX_weak (hg _ _ _ _ h) rfl ⟨lR_of h0, lI_of h1, lI_of h2, trivial⟩
  · cases h
set_option maxRecDepth 20000 in
theorem e_X12_gathers_393 (F : Nat) (t393 : Nat → Int32 → Int32 → cM → Option (cM)) (x0 : Nat) (x1 : Int32) (x2 : Int32) (M : cM) : b_X12_gathers_393 F t393 x0 x1 x2 M = run T_X12_gathers P_RX12 false 5 (naL na_X12_gathers) (caL (ca_X12_gathers F)) (lkN th_X12_gathers) (lkN sw_X12_gathers) krV kxN (spL [393]) (KL [(393, kd_X12_gathers_393 t393)]) 253 393 [some (.ref x0), some (.int x1), some (.int x2), none, none, none, none] [] M := rfl
theorem ok_X12_gathers_393 {X : cCtx} {D : Nat} {r : cM} (G : FX X 7 (eV r) cX12_gathers RX12 5 D) {F : Nat} (hca : ∀ x ∈ (ca_X12_gathers (R' := cM) F), 1 ≤ D ∧ ceS X.1 RX12 (D - 1) x.1 x.2) (n : Nat) : ∀ x0 x1 x2 M, f_X12_gathers_393 F n x0 x1 x2 M = some r → WX X 7 (eV r) 393 [some (.ref x0), some (.int x1), some (.int x2), none, none, none, none] [] M := by
  induction n with
  | zero => intro x0 x1 x2 M h; cases h
  | succ n ih =>
    intro x0 x1 x2 M h
    exact seg_ok G P_RX12_ok T_X12_gathers_ok hca (fun _ h => absurd h List.not_mem_nil) sw_X12_gathers_ok krV_ok (kxN_ok (f := eV)) (List.forall_mem_cons.mpr ⟨kf_X12_gathers_393 (ih), fun _ h => absurd h List.not_mem_nil⟩) ((e_X12_gathers_393 F (f_X12_gathers_393 F n) x0 x1 x2 M).symm.trans h)
set_option maxRecDepth 20000 in
theorem e_X12_gathers_295 (F : Nat) (t295 : Nat → Int32 → Int32 → cM → Option (cM)) (t393 : Nat → Int32 → Int32 → cM → Option (cM)) (x0 : Nat) (x1 : Int32) (x2 : Int32) (M : cM) : b_X12_gathers_295 F t295 t393 x0 x1 x2 M = run T_X12_gathers P_RX12 false 5 (naL na_X12_gathers) (caL (ca_X12_gathers F)) (lkN th_X12_gathers) (lkN sw_X12_gathers) krV kxN (spL [295, 393]) (KL [(295, kd_X12_gathers_295 t295), (393, kd_X12_gathers_393 t393)]) 253 295 [some (.ref x0), some (.int x1), some (.int x2), none, none, none, none] [] M := rfl
theorem ok_X12_gathers_295 {X : cCtx} {D : Nat} {r : cM} (G : FX X 7 (eV r) cX12_gathers RX12 5 D) {F : Nat} (hca : ∀ x ∈ (ca_X12_gathers (R' := cM) F), 1 ≤ D ∧ ceS X.1 RX12 (D - 1) x.1 x.2) (n : Nat) : ∀ x0 x1 x2 M, f_X12_gathers_295 F n x0 x1 x2 M = some r → WX X 7 (eV r) 295 [some (.ref x0), some (.int x1), some (.int x2), none, none, none, none] [] M := by
  induction n with
  | zero => intro x0 x1 x2 M h; cases h
  | succ n ih =>
    intro x0 x1 x2 M h
    exact seg_ok G P_RX12_ok T_X12_gathers_ok hca (fun _ h => absurd h List.not_mem_nil) sw_X12_gathers_ok krV_ok (kxN_ok (f := eV)) (List.forall_mem_cons.mpr ⟨kf_X12_gathers_295 (ih), List.forall_mem_cons.mpr ⟨kf_X12_gathers_393 (ok_X12_gathers_393 G hca F), fun _ h => absurd h List.not_mem_nil⟩⟩) ((e_X12_gathers_295 F (f_X12_gathers_295 F n) (f_X12_gathers_393 F F) x0 x1 x2 M).symm.trans h)
set_option maxRecDepth 20000 in
theorem e_X12_gathers_238 (F : Nat) (t140 : Nat → Int32 → Int32 → Int32 → cM → Option (cM)) (x0 : Nat) (x1 : Int32) (x2 : Int32) (x3 : Int32) (x5 : Int32) (M : cM) : b_X12_gathers_238 F t140 x0 x1 x2 x3 x5 M = run T_X12_gathers P_RX12 false 5 (naL na_X12_gathers) (caL (ca_X12_gathers F)) (lkN th_X12_gathers) (lkN sw_X12_gathers) krV kxN (spL [140]) (KL [(140, kd_X12_gathers_140 t140)]) 253 238 [some (.ref x0), some (.int x1), some (.int x2), some (.int x3), none, some (.int x5), none] [] M := rfl
theorem ok_X12_gathers_238 {X : cCtx} {D : Nat} {r : cM} (G : FX X 7 (eV r) cX12_gathers RX12 5 D) {F : Nat} (hca : ∀ x ∈ (ca_X12_gathers (R' := cM) F), 1 ≤ D ∧ ceS X.1 RX12 (D - 1) x.1 x.2) (k102 : Nat → Int32 → Int32 → cM → Option (cM)) (k140 : Nat → Int32 → Int32 → Int32 → cM → Option (cM)) (hk102 : ∀ x0 x1 x2 M, k102 x0 x1 x2 M = some r → WX X 7 (eV r) 102 [some (.ref x0), some (.int x1), some (.int x2), none, none, none, none] [] M) (hk140 : ∀ x0 x1 x2 x3 M, k140 x0 x1 x2 x3 M = some r → WX X 7 (eV r) 140 [some (.ref x0), some (.int x1), some (.int x2), some (.int x3), none, none, none] [] M) : ∀ x0 x1 x2 x3 x5 M, f_X12_gathers_238 F k102 k140 x0 x1 x2 x3 x5 M = some r → WX X 7 (eV r) 238 [some (.ref x0), some (.int x1), some (.int x2), some (.int x3), none, some (.int x5), none] [] M := by
  intro x0 x1 x2 x3 x5 M h
  exact seg_ok G P_RX12_ok T_X12_gathers_ok hca (fun _ h => absurd h List.not_mem_nil) sw_X12_gathers_ok krV_ok (kxN_ok (f := eV)) (List.forall_mem_cons.mpr ⟨kf_X12_gathers_140 (hk140), fun _ h => absurd h List.not_mem_nil⟩) ((e_X12_gathers_238 F (k140) x0 x1 x2 x3 x5 M).symm.trans h)
set_option maxRecDepth 20000 in
theorem e_X12_gathers_215 (F : Nat) (t140 : Nat → Int32 → Int32 → Int32 → cM → Option (cM)) (x0 : Nat) (x1 : Int32) (x2 : Int32) (x3 : Int32) (x5 : Int32) (M : cM) : b_X12_gathers_215 F t140 x0 x1 x2 x3 x5 M = run T_X12_gathers P_RX12 false 5 (naL na_X12_gathers) (caL (ca_X12_gathers F)) (lkN th_X12_gathers) (lkN sw_X12_gathers) krV kxN (spL [140]) (KL [(140, kd_X12_gathers_140 t140)]) 253 215 [some (.ref x0), some (.int x1), some (.int x2), some (.int x3), none, some (.int x5), none] [] M := rfl
theorem ok_X12_gathers_215 {X : cCtx} {D : Nat} {r : cM} (G : FX X 7 (eV r) cX12_gathers RX12 5 D) {F : Nat} (hca : ∀ x ∈ (ca_X12_gathers (R' := cM) F), 1 ≤ D ∧ ceS X.1 RX12 (D - 1) x.1 x.2) (k102 : Nat → Int32 → Int32 → cM → Option (cM)) (k140 : Nat → Int32 → Int32 → Int32 → cM → Option (cM)) (hk102 : ∀ x0 x1 x2 M, k102 x0 x1 x2 M = some r → WX X 7 (eV r) 102 [some (.ref x0), some (.int x1), some (.int x2), none, none, none, none] [] M) (hk140 : ∀ x0 x1 x2 x3 M, k140 x0 x1 x2 x3 M = some r → WX X 7 (eV r) 140 [some (.ref x0), some (.int x1), some (.int x2), some (.int x3), none, none, none] [] M) : ∀ x0 x1 x2 x3 x5 M, f_X12_gathers_215 F k102 k140 x0 x1 x2 x3 x5 M = some r → WX X 7 (eV r) 215 [some (.ref x0), some (.int x1), some (.int x2), some (.int x3), none, some (.int x5), none] [] M := by
  intro x0 x1 x2 x3 x5 M h
  exact seg_ok G P_RX12_ok T_X12_gathers_ok hca (fun _ h => absurd h List.not_mem_nil) sw_X12_gathers_ok krV_ok (kxN_ok (f := eV)) (List.forall_mem_cons.mpr ⟨kf_X12_gathers_140 (hk140), fun _ h => absurd h List.not_mem_nil⟩) ((e_X12_gathers_215 F (k140) x0 x1 x2 x3 x5 M).symm.trans h)
set_option maxRecDepth 20000 in
theorem e_X12_gathers_172 (F : Nat) (t140 : Nat → Int32 → Int32 → Int32 → cM → Option (cM)) (t172 : Nat → Int32 → Int32 → Int32 → Int32 → Int32 → cM → Option (cM)) (x0 : Nat) (x1 : Int32) (x2 : Int32) (x3 : Int32) (x4 : Int32) (x6 : Int32) (M : cM) : b_X12_gathers_172 F t140 t172 x0 x1 x2 x3 x4 x6 M = run T_X12_gathers P_RX12 false 5 (naL na_X12_gathers) (caL (ca_X12_gathers F)) (lkN th_X12_gathers) (lkN sw_X12_gathers) krV kxN (spL [140, 172]) (KL [(140, kd_X12_gathers_140 t140), (172, kd_X12_gathers_172 t172)]) 253 172 [some (.ref x0), some (.int x1), some (.int x2), some (.int x3), some (.int x4), none, some (.int x6)] [] M := rfl
theorem ok_X12_gathers_172 {X : cCtx} {D : Nat} {r : cM} (G : FX X 7 (eV r) cX12_gathers RX12 5 D) {F : Nat} (hca : ∀ x ∈ (ca_X12_gathers (R' := cM) F), 1 ≤ D ∧ ceS X.1 RX12 (D - 1) x.1 x.2) (k102 : Nat → Int32 → Int32 → cM → Option (cM)) (k140 : Nat → Int32 → Int32 → Int32 → cM → Option (cM)) (hk102 : ∀ x0 x1 x2 M, k102 x0 x1 x2 M = some r → WX X 7 (eV r) 102 [some (.ref x0), some (.int x1), some (.int x2), none, none, none, none] [] M) (hk140 : ∀ x0 x1 x2 x3 M, k140 x0 x1 x2 x3 M = some r → WX X 7 (eV r) 140 [some (.ref x0), some (.int x1), some (.int x2), some (.int x3), none, none, none] [] M) (n : Nat) : ∀ x0 x1 x2 x3 x4 x6 M, f_X12_gathers_172 F k102 k140 n x0 x1 x2 x3 x4 x6 M = some r → WX X 7 (eV r) 172 [some (.ref x0), some (.int x1), some (.int x2), some (.int x3), some (.int x4), none, some (.int x6)] [] M := by
  induction n with
  | zero => intro x0 x1 x2 x3 x4 x6 M h; cases h
  | succ n ih =>
    intro x0 x1 x2 x3 x4 x6 M h
    exact seg_ok G P_RX12_ok T_X12_gathers_ok hca (fun _ h => absurd h List.not_mem_nil) sw_X12_gathers_ok krV_ok (kxN_ok (f := eV)) (List.forall_mem_cons.mpr ⟨kf_X12_gathers_140 (hk140), List.forall_mem_cons.mpr ⟨kf_X12_gathers_172 (ih), fun _ h => absurd h List.not_mem_nil⟩⟩) ((e_X12_gathers_172 F (k140) (f_X12_gathers_172 F k102 k140 n) x0 x1 x2 x3 x4 x6 M).symm.trans h)
set_option maxRecDepth 20000 in
theorem e_X12_gathers_140 (F : Nat) (t102 : Nat → Int32 → Int32 → cM → Option (cM)) (t172 : Nat → Int32 → Int32 → Int32 → Int32 → Int32 → cM → Option (cM)) (t215 : Nat → Int32 → Int32 → Int32 → Int32 → cM → Option (cM)) (t238 : Nat → Int32 → Int32 → Int32 → Int32 → cM → Option (cM)) (x0 : Nat) (x1 : Int32) (x2 : Int32) (x3 : Int32) (M : cM) : b_X12_gathers_140 F t102 t172 t215 t238 x0 x1 x2 x3 M = run T_X12_gathers P_RX12 false 5 (naL na_X12_gathers) (caL (ca_X12_gathers F)) (lkN th_X12_gathers) (lkN sw_X12_gathers) krV kxN (spL [102, 172, 215, 238]) (KL [(102, kd_X12_gathers_102 t102), (172, kd_X12_gathers_172 t172), (215, kd_X12_gathers_215 t215), (238, kd_X12_gathers_238 t238)]) 253 140 [some (.ref x0), some (.int x1), some (.int x2), some (.int x3), none, none, none] [] M := rfl
theorem ok_X12_gathers_140 {X : cCtx} {D : Nat} {r : cM} (G : FX X 7 (eV r) cX12_gathers RX12 5 D) {F : Nat} (hca : ∀ x ∈ (ca_X12_gathers (R' := cM) F), 1 ≤ D ∧ ceS X.1 RX12 (D - 1) x.1 x.2) (k102 : Nat → Int32 → Int32 → cM → Option (cM)) (hk102 : ∀ x0 x1 x2 M, k102 x0 x1 x2 M = some r → WX X 7 (eV r) 102 [some (.ref x0), some (.int x1), some (.int x2), none, none, none, none] [] M) (n : Nat) : ∀ x0 x1 x2 x3 M, f_X12_gathers_140 F k102 n x0 x1 x2 x3 M = some r → WX X 7 (eV r) 140 [some (.ref x0), some (.int x1), some (.int x2), some (.int x3), none, none, none] [] M := by
  induction n with
  | zero => intro x0 x1 x2 x3 M h; cases h
  | succ n ih =>
    intro x0 x1 x2 x3 M h
    exact seg_ok G P_RX12_ok T_X12_gathers_ok hca (fun _ h => absurd h List.not_mem_nil) sw_X12_gathers_ok krV_ok (kxN_ok (f := eV)) (List.forall_mem_cons.mpr ⟨kf_X12_gathers_102 (hk102), List.forall_mem_cons.mpr ⟨kf_X12_gathers_172 (ok_X12_gathers_172 G hca k102 (f_X12_gathers_140 F k102 n) hk102 ih F), List.forall_mem_cons.mpr ⟨kf_X12_gathers_215 (ok_X12_gathers_215 G hca k102 (f_X12_gathers_140 F k102 n) hk102 ih), List.forall_mem_cons.mpr ⟨kf_X12_gathers_238 (ok_X12_gathers_238 G hca k102 (f_X12_gathers_140 F k102 n) hk102 ih), fun _ h => absurd h List.not_mem_nil⟩⟩⟩⟩) ((e_X12_gathers_140 F (k102) (f_X12_gathers_172 F k102 (f_X12_gathers_140 F k102 n) F) (f_X12_gathers_215 F k102 (f_X12_gathers_140 F k102 n)) (f_X12_gathers_238 F k102 (f_X12_gathers_140 F k102 n)) x0 x1 x2 x3 M).symm.trans h)
set_option maxRecDepth 20000 in
theorem e_X12_gathers_102 (F : Nat) (t140 : Nat → Int32 → Int32 → Int32 → cM → Option (cM)) (t295 : Nat → Int32 → Int32 → cM → Option (cM)) (x0 : Nat) (x1 : Int32) (x2 : Int32) (M : cM) : b_X12_gathers_102 F t140 t295 x0 x1 x2 M = run T_X12_gathers P_RX12 false 5 (naL na_X12_gathers) (caL (ca_X12_gathers F)) (lkN th_X12_gathers) (lkN sw_X12_gathers) krV kxN (spL [140, 295]) (KL [(140, kd_X12_gathers_140 t140), (295, kd_X12_gathers_295 t295)]) 253 102 [some (.ref x0), some (.int x1), some (.int x2), none, none, none, none] [] M := rfl
theorem ok_X12_gathers_102 {X : cCtx} {D : Nat} {r : cM} (G : FX X 7 (eV r) cX12_gathers RX12 5 D) {F : Nat} (hca : ∀ x ∈ (ca_X12_gathers (R' := cM) F), 1 ≤ D ∧ ceS X.1 RX12 (D - 1) x.1 x.2) (n : Nat) : ∀ x0 x1 x2 M, f_X12_gathers_102 F n x0 x1 x2 M = some r → WX X 7 (eV r) 102 [some (.ref x0), some (.int x1), some (.int x2), none, none, none, none] [] M := by
  induction n with
  | zero => intro x0 x1 x2 M h; cases h
  | succ n ih =>
    intro x0 x1 x2 M h
    exact seg_ok G P_RX12_ok T_X12_gathers_ok hca (fun _ h => absurd h List.not_mem_nil) sw_X12_gathers_ok krV_ok (kxN_ok (f := eV)) (List.forall_mem_cons.mpr ⟨kf_X12_gathers_140 (ok_X12_gathers_140 G hca (f_X12_gathers_102 F n) ih F), List.forall_mem_cons.mpr ⟨kf_X12_gathers_295 (ok_X12_gathers_295 G hca F), fun _ h => absurd h List.not_mem_nil⟩⟩) ((e_X12_gathers_102 F (f_X12_gathers_140 F (f_X12_gathers_102 F n) F) (f_X12_gathers_295 F F) x0 x1 x2 M).symm.trans h)
set_option maxRecDepth 20000 in
theorem e_X12_gathers_38 (F : Nat) (t30 : Nat → Int32 → Int32 → Int32 → cM → Option (cM)) (t38 : Nat → Int32 → Int32 → Int32 → Int32 → cM → Option (cM)) (x0 : Nat) (x1 : Int32) (x2 : Int32) (x3 : Int32) (x4 : Int32) (M : cM) : b_X12_gathers_38 F t30 t38 x0 x1 x2 x3 x4 M = run T_X12_gathers P_RX12 false 5 (naL na_X12_gathers) (caL (ca_X12_gathers F)) (lkN th_X12_gathers) (lkN sw_X12_gathers) krV kxN (spL [30, 38]) (KL [(30, kd_X12_gathers_30 t30), (38, kd_X12_gathers_38 t38)]) 253 38 [some (.ref x0), some (.int x1), some (.int x2), some (.int x3), some (.int x4), none, none] [] M := rfl
theorem ok_X12_gathers_38 {X : cCtx} {D : Nat} {r : cM} (G : FX X 7 (eV r) cX12_gathers RX12 5 D) {F : Nat} (hca : ∀ x ∈ (ca_X12_gathers (R' := cM) F), 1 ≤ D ∧ ceS X.1 RX12 (D - 1) x.1 x.2) (k14 : Nat → Int32 → Int32 → cM → Option (cM)) (k30 : Nat → Int32 → Int32 → Int32 → cM → Option (cM)) (hk14 : ∀ x0 x1 x2 M, k14 x0 x1 x2 M = some r → WX X 7 (eV r) 14 [some (.ref x0), some (.int x1), some (.int x2), none, none, none, none] [] M) (hk30 : ∀ x0 x1 x2 x3 M, k30 x0 x1 x2 x3 M = some r → WX X 7 (eV r) 30 [some (.ref x0), some (.int x1), some (.int x2), some (.int x3), none, none, none] [] M) (n : Nat) : ∀ x0 x1 x2 x3 x4 M, f_X12_gathers_38 F k14 k30 n x0 x1 x2 x3 x4 M = some r → WX X 7 (eV r) 38 [some (.ref x0), some (.int x1), some (.int x2), some (.int x3), some (.int x4), none, none] [] M := by
  induction n with
  | zero => intro x0 x1 x2 x3 x4 M h; cases h
  | succ n ih =>
    intro x0 x1 x2 x3 x4 M h
    exact seg_ok G P_RX12_ok T_X12_gathers_ok hca (fun _ h => absurd h List.not_mem_nil) sw_X12_gathers_ok krV_ok (kxN_ok (f := eV)) (List.forall_mem_cons.mpr ⟨kf_X12_gathers_30 (hk30), List.forall_mem_cons.mpr ⟨kf_X12_gathers_38 (ih), fun _ h => absurd h List.not_mem_nil⟩⟩) ((e_X12_gathers_38 F (k30) (f_X12_gathers_38 F k14 k30 n) x0 x1 x2 x3 x4 M).symm.trans h)
set_option maxRecDepth 20000 in
theorem e_X12_gathers_30 (F : Nat) (t14 : Nat → Int32 → Int32 → cM → Option (cM)) (t38 : Nat → Int32 → Int32 → Int32 → Int32 → cM → Option (cM)) (x0 : Nat) (x1 : Int32) (x2 : Int32) (x3 : Int32) (M : cM) : b_X12_gathers_30 F t14 t38 x0 x1 x2 x3 M = run T_X12_gathers P_RX12 false 5 (naL na_X12_gathers) (caL (ca_X12_gathers F)) (lkN th_X12_gathers) (lkN sw_X12_gathers) krV kxN (spL [14, 38]) (KL [(14, kd_X12_gathers_14 t14), (38, kd_X12_gathers_38 t38)]) 253 30 [some (.ref x0), some (.int x1), some (.int x2), some (.int x3), none, none, none] [] M := rfl
theorem ok_X12_gathers_30 {X : cCtx} {D : Nat} {r : cM} (G : FX X 7 (eV r) cX12_gathers RX12 5 D) {F : Nat} (hca : ∀ x ∈ (ca_X12_gathers (R' := cM) F), 1 ≤ D ∧ ceS X.1 RX12 (D - 1) x.1 x.2) (k14 : Nat → Int32 → Int32 → cM → Option (cM)) (hk14 : ∀ x0 x1 x2 M, k14 x0 x1 x2 M = some r → WX X 7 (eV r) 14 [some (.ref x0), some (.int x1), some (.int x2), none, none, none, none] [] M) (n : Nat) : ∀ x0 x1 x2 x3 M, f_X12_gathers_30 F k14 n x0 x1 x2 x3 M = some r → WX X 7 (eV r) 30 [some (.ref x0), some (.int x1), some (.int x2), some (.int x3), none, none, none] [] M := by
  induction n with
  | zero => intro x0 x1 x2 x3 M h; cases h
  | succ n ih =>
    intro x0 x1 x2 x3 M h
    exact seg_ok G P_RX12_ok T_X12_gathers_ok hca (fun _ h => absurd h List.not_mem_nil) sw_X12_gathers_ok krV_ok (kxN_ok (f := eV)) (List.forall_mem_cons.mpr ⟨kf_X12_gathers_14 (hk14), List.forall_mem_cons.mpr ⟨kf_X12_gathers_38 (ok_X12_gathers_38 G hca k14 (f_X12_gathers_30 F k14 n) hk14 ih F), fun _ h => absurd h List.not_mem_nil⟩⟩) ((e_X12_gathers_30 F (k14) (f_X12_gathers_38 F k14 (f_X12_gathers_30 F k14 n) F) x0 x1 x2 x3 M).symm.trans h)
set_option maxRecDepth 20000 in
theorem e_X12_gathers_14 (F : Nat) (t30 : Nat → Int32 → Int32 → Int32 → cM → Option (cM)) (t102 : Nat → Int32 → Int32 → cM → Option (cM)) (x0 : Nat) (x1 : Int32) (x2 : Int32) (M : cM) : b_X12_gathers_14 F t30 t102 x0 x1 x2 M = run T_X12_gathers P_RX12 false 5 (naL na_X12_gathers) (caL (ca_X12_gathers F)) (lkN th_X12_gathers) (lkN sw_X12_gathers) krV kxN (spL [30, 102]) (KL [(30, kd_X12_gathers_30 t30), (102, kd_X12_gathers_102 t102)]) 253 14 [some (.ref x0), some (.int x1), some (.int x2), none, none, none, none] [] M := rfl
theorem ok_X12_gathers_14 {X : cCtx} {D : Nat} {r : cM} (G : FX X 7 (eV r) cX12_gathers RX12 5 D) {F : Nat} (hca : ∀ x ∈ (ca_X12_gathers (R' := cM) F), 1 ≤ D ∧ ceS X.1 RX12 (D - 1) x.1 x.2) (n : Nat) : ∀ x0 x1 x2 M, f_X12_gathers_14 F n x0 x1 x2 M = some r → WX X 7 (eV r) 14 [some (.ref x0), some (.int x1), some (.int x2), none, none, none, none] [] M := by
  induction n with
  | zero => intro x0 x1 x2 M h; cases h
  | succ n ih =>
    intro x0 x1 x2 M h
    exact seg_ok G P_RX12_ok T_X12_gathers_ok hca (fun _ h => absurd h List.not_mem_nil) sw_X12_gathers_ok krV_ok (kxN_ok (f := eV)) (List.forall_mem_cons.mpr ⟨kf_X12_gathers_30 (ok_X12_gathers_30 G hca (f_X12_gathers_14 F n) ih F), List.forall_mem_cons.mpr ⟨kf_X12_gathers_102 (ok_X12_gathers_102 G hca F), fun _ h => absurd h List.not_mem_nil⟩⟩) ((e_X12_gathers_14 F (f_X12_gathers_30 F (f_X12_gathers_14 F n) F) (f_X12_gathers_102 F F) x0 x1 x2 M).symm.trans h)
set_option maxRecDepth 20000 in
theorem e_X12_gathers_0 (F : Nat) (t14 : Nat → Int32 → Int32 → cM → Option (cM)) (x0 : Nat) (x1 : Int32) (M : cM) : b_X12_gathers_0 F t14 x0 x1 M = run T_X12_gathers P_RX12 false 5 (naL na_X12_gathers) (caL (ca_X12_gathers F)) (lkN th_X12_gathers) (lkN sw_X12_gathers) krV kxN (spL [14]) (KL [(14, kd_X12_gathers_14 t14)]) 253 0 [some (.ref x0), some (.int x1), none, none, none, none, none] [] M := rfl
theorem ok_X12_gathers_0 {X : cCtx} {D : Nat} {r : cM} (G : FX X 7 (eV r) cX12_gathers RX12 5 D) {F : Nat} (hca : ∀ x ∈ (ca_X12_gathers (R' := cM) F), 1 ≤ D ∧ ceS X.1 RX12 (D - 1) x.1 x.2) : ∀ x0 x1 M, f_X12_gathers_0 F x0 x1 M = some r → WX X 7 (eV r) 0 [some (.ref x0), some (.int x1), none, none, none, none, none] [] M := by
  intro x0 x1 M h
  exact seg_ok G P_RX12_ok T_X12_gathers_ok hca (fun _ h => absurd h List.not_mem_nil) sw_X12_gathers_ok krV_ok (kxN_ok (f := eV)) (List.forall_mem_cons.mpr ⟨kf_X12_gathers_14 (ok_X12_gathers_14 G hca F), fun _ h => absurd h List.not_mem_nil⟩) ((e_X12_gathers_0 F (f_X12_gathers_14 F F) x0 x1 M).symm.trans h)
theorem c_X12_gathers {q : cL} (hst : q.1.stackTraces = false) {D : Nat} (hD : 5 ≤ D) (F : Nat) (a0 : Nat) (a1 : Int32) (M : cM) (r : cM) (h : f_X12_gathers F a0 a1 M = some r) : CTx q yX12_gathers (.code yX12_gathers cX12_gathers 7 none) D [.ref a0, .int a1] M (eV r) ∧ ∃ fs, M[a0]? = some (.inr (10, fs)) := by
  unfold f_X12_gathers at h
  split at h
  · next hi => exact ⟨CTx_of (own := RX12) (rk := 5) hst (by decide +kernel) rfl (rfl) (Nat.le_of_ble_eq_true rfl) (fun X hX G => by subst hX; exact ok_X12_gathers_0 G (ca_X12_gathers_ok hst hD F) a0 a1 M h), isC_of hi⟩
  · cases h
def n_X12_gathers {R' : Type} (f : Nat → Int32 → cM → Option (cM)) : cFn R' := fun as M κ κx => match as with
  | [.ref a0, .int a1] => (f a0 a1 M).bind fun p => κ none p
  | _ => none
theorem w_X12_gathers : ∀ w ∈ [Cond.instanceMethod yX12_gathers, .selects yX12_gathers.cls yX12_gathers yX12_gathers, .initialized yX12_gathers.cls, .code yX12_gathers cX12_gathers 7 none], w ∈ lw_good := List.forall_mem_cons.mpr ⟨lw_good_of (tb_ok 1460 (by decide +kernel)) rfl, List.forall_mem_cons.mpr ⟨lw_good_of (ts_ok 46 (by decide +kernel)) rfl, List.forall_mem_cons.mpr ⟨lw_good_of (tb_ok 11 (by decide +kernel)) rfl, List.forall_mem_cons.mpr ⟨lw_good_of (tb_ok 1461 (by decide +kernel)) rfl, fun _ h => absurd h List.not_mem_nil⟩⟩⟩⟩
theorem n_X12_gathers_ok {R' : Type} {q : cL} {own : String} {d k : Nat} {f : Nat → Int32 → cM → Option (cM)} (hl : Cond.methodLink own k yX12_gathers ∈ lw_good) (hf : ∀ a0 a1 M r, f a0 a1 M = some r → CTx q yX12_gathers (.code yX12_gathers cX12_gathers 7 none) d [.ref a0, .int a1] M (eV r) ∧ ∃ fs, M[a0]? = some (.inr (10, fs))) : ceS q own d (3 * k + 1) (n_X12_gathers (R' := R') f) := by
  intro as M κ κx r h
  unfold n_X12_gathers at h
  split at h
  · obtain ⟨p, h1, h2⟩ := Option.bind_eq_some_iff.mp h
    obtain ⟨hc, fs, ha⟩ := hf _ _ _ _ h1
    exact ⟨eV p, fun _ => h2, fun hne => absurd rfl hne, Or.inr (Or.inl ⟨yX12_gathers, cX12_gathers, 7, none, k, 1, _, _, 10, TX12, 76, fs, rfl, rfl, hc, ha, rfl, List.forall_mem_cons.mpr ⟨hl, w_X12_gathers⟩, ⟨rfl, by decide +kernel, by decide +kernel, by decide +kernel⟩, rfl, by decide⟩)⟩
  · cases h
-- PatchbayScriptModel.chooses(I)V
def T_X12_chooses : List cRow := [(0, .aload_n 0, 1, 0), (1, .iconst 0, 2, 0), (2, .putfield 323, 5, 0), (5, .aload_n 0, 6, 0), (6, .iconst 1, 7, 0), (7, .putfield 326, 10, 0), (10, .iconst 0, 11, 0), (11, .istore_n 2, 12, 0), (12, .iload_n 2, 13, 0), (13, .aload_n 0, 14, 0), (14, .getfield 25, 17, 0), (17, .aload_n 0, 18, 0), (18, .getfield 303, 21, 0), (21, .iaload, 22, 0), (22, .if_icmp .ge 93, 25, 115), (25, .iload_n 1, 26, 0), (26, .iload_n 2, 27, 0), (27, .ishr, 28, 0), (28, .iconst 1, 29, 0), (29, .iand, 30, 0), (30, .iconst 1, 31, 0), (31, .if_icmp .ne 78, 34, 109), (34, .aload_n 0, 35, 0), (35, .getfield 146, 38, 0), (38, .aload_n 0, 39, 0), (39, .getfield 323, 42, 0), (42, .iload_n 2, 43, 0), (43, .iastore, 44, 0), (44, .aload_n 0, 45, 0), (45, .getfield 149, 48, 0), (48, .aload_n 0, 49, 0), (49, .getfield 323, 52, 0), (52, .aload_n 0, 53, 0), (53, .getfield 326, 56, 0), (56, .iastore, 57, 0), (57, .aload_n 0, 58, 0), (58, .getfield 152, 61, 0), (61, .aload_n 0, 62, 0), (62, .getfield 323, 65, 0), (65, .aload_n 0, 66, 0), (66, .getfield 40, 69, 0), (69, .iconst 4, 70, 0), (70, .aload_n 0, 71, 0), (71, .getfield 303, 74, 0), (74, .imul, 75, 0), (75, .iload_n 2, 76, 0), (76, .iadd, 77, 0), (77, .iaload, 78, 0), (78, .iconst 1, 79, 0), (79, .iadd, 80, 0), (80, .iastore, 81, 0), (81, .aload_n 0, 82, 0), (82, .dup, 83, 0), (83, .getfield 326, 86, 0), (86, .aload_n 0, 87, 0), (87, .getfield 152, 90, 0), (90, .aload_n 0, 91, 0), (91, .getfield 323, 94, 0), (94, .iaload, 95, 0), (95, .imul, 96, 0), (96, .putfield 326, 99, 0), (99, .aload_n 0, 100, 0), (100, .dup, 101, 0), (101, .getfield 323, 104, 0), (104, .iconst 1, 105, 0), (105, .iadd, 106, 0), (106, .putfield 323, 109, 0), (109, .iinc 2 1, 112, 0), (112, .goto (-100), 115, 12), (115, .aload_n 0, 116, 0), (116, .iconst 0, 117, 0), (117, .putfield 329, 120, 0), (120, .iconst 0, 121, 0), (121, .istore_n 2, 122, 0), (122, .iload_n 2, 123, 0), (123, .aload_n 0, 124, 0), (124, .getfield 309, 127, 0), (127, .if_icmp .ge 84, 130, 211), (130, .iconst 1, 131, 0), (131, .istore_n 3, 132, 0), (132, .iconst 0, 133, 0), (133, .istore 4, 135, 0), (135, .iload 4, 137, 0), (137, .aload_n 0, 138, 0), (138, .getfield 323, 141, 0), (141, .if_icmp .ge 40, 144, 181), (144, .iload_n 3, 145, 0), (145, .ifCond .eq 28, 148, 173), (148, .aload_n 0, 149, 0), (149, .getfield 134, 152, 0), (152, .sipush 4000, 155, 0), (155, .aload_n 0, 156, 0), (156, .getfield 146, 159, 0), (159, .iload 4, 161, 0), (161, .iaload, 162, 0), (162, .imul, 163, 0), (163, .iload_n 2, 164, 0), (164, .iadd, 165, 0), (165, .iaload, 166, 0), (166, .ifCond .eq 7, 169, 173), (169, .iconst 1, 170, 0), (170, .goto 4, 173, 174), (173, .iconst 0, 174, 0), (174, .istore_n 3, 175, 0), (175, .iinc 4 1, 178, 0), (178, .goto (-43), 181, 135), (181, .iload_n 3, 182, 0), (182, .ifCond .eq 23, 185, 205), (185, .aload_n 0, 186, 0), (186, .getfield 143, 189, 0), (189, .aload_n 0, 190, 0), (190, .getfield 329, 193, 0), (193, .iload_n 2, 194, 0), (194, .iastore, 195, 0), (195, .aload_n 0, 196, 0), (196, .dup, 197, 0), (197, .getfield 329, 200, 0), (200, .iconst 1, 201, 0), (201, .iadd, 202, 0), (202, .putfield 329, 205, 0), (205, .iinc 2 1, 208, 0), (208, .goto (-86), 211, 122), (211, .return_, 212, 0)]
theorem T_X12_chooses_ok : T_X12_chooses.all (rowB cX12_chooses) = true := by decide +kernel
def th_X12_chooses : List (Nat × Nat) := []
def sw_X12_chooses : List (Nat × (List (Int32 × Nat) × Nat)) := []
theorem sw_X12_chooses_ok : ∀ q ∈ sw_X12_chooses, swS cX12_chooses q := fun _ h => absurd h List.not_mem_nil
def na_X12_chooses : List (Nat × Nat) := []
def ca_X12_chooses {R' : Type} (F : Nat) : List (Nat × cFn R') := []
theorem ca_X12_chooses_ok {R' : Type} {q : cL} (hst : q.1.stackTraces = false) {D : Nat} (hD : 0 ≤ D) (F : Nat) : ∀ x ∈ (ca_X12_chooses (R' := R') F), 1 ≤ D ∧ ceS q RX12 (D - 1) x.1 x.2 := fun _ h => absurd h List.not_mem_nil
def kd_X12_chooses_12 (g : Nat → Int32 → Int32 → cM → Option (cM)) : cKf (cM) := fun vs st M => (lR vs 0).bind fun x0 => (lI vs 1).bind fun x1 => (lI vs 2).bind fun x2 => match st with
  | [] => g x0 x1 x2 M
  | _ => none
theorem kf_X12_chooses_12 {X : cCtx} {o : cO} {r : cM} {g : Nat → Int32 → Int32 → cM → Option (cM)} (hg : ∀ x0 x1 x2 M, g x0 x1 x2 M = some r → WX X 5 o 12 [some (.ref x0), some (.int x1), some (.int x2), none, none] [] M) : ∀ vs st M, kd_X12_chooses_12 g vs st M = some r → WX X 5 o 12 vs st M := by
  intro vs st M h
  unfold kd_X12_chooses_12 at h
  obtain ⟨x0, h0, h⟩ := Option.bind_eq_some_iff.mp h
  obtain ⟨x1, h1, h⟩ := Option.bind_eq_some_iff.mp h
  obtain ⟨x2, h2, h⟩ := Option.bind_eq_some_iff.mp h
  split at h
  · exact WX_weak (hg _ _ _ _ h) rfl ⟨lR_of h0, lI_of h1, lI_of h2, trivial⟩
  · cases h
def kd_X12_chooses_57 (g : Nat → Int32 → Int32 → cM → Option (cM)) : cKf (cM) := fun vs st M => (lR vs 0).bind fun x0 => (lI vs 1).bind fun x1 => (lI vs 2).bind fun x2 => match st with
  | [] => g x0 x1 x2 M
  | _ => none
theorem kf_X12_chooses_57 {X : cCtx} {o : cO} {r : cM} {g : Nat → Int32 → Int32 → cM → Option (cM)} (hg : ∀ x0 x1 x2 M, g x0 x1 x2 M = some r → WX X 5 o 57 [some (.ref x0), some (.int x1), some (.int x2), none, none] [] M) : ∀ vs st M, kd_X12_chooses_57 g vs st M = some r → WX X 5 o 57 vs st M := by
  intro vs st M h
  unfold kd_X12_chooses_57 at h
  obtain ⟨x0, h0, h⟩ := Option.bind_eq_some_iff.mp h
  obtain ⟨x1, h1, h⟩ := Option.bind_eq_some_iff.mp h
  obtain ⟨x2, h2, h⟩ := Option.bind_eq_some_iff.mp h
  split at h
  · exact WX_weak (hg _ _ _ _ h) rfl ⟨lR_of h0, lI_of h1, lI_of h2, trivial⟩
  · cases h
def kd_X12_chooses_122 (g : Nat → Int32 → cM → Option (cM)) : cKf (cM) := fun vs st M => (lR vs 0).bind fun x0 => (lI vs 2).bind fun x2 => match st with
  | [] => g x0 x2 M
  | _ => none
theorem kf_X12_chooses_122 {X : cCtx} {o : cO} {r : cM} {g : Nat → Int32 → cM → Option (cM)} (hg : ∀ x0 x2 M, g x0 x2 M = some r → WX X 5 o 122 [some (.ref x0), none, some (.int x2), none, none] [] M) : ∀ vs st M, kd_X12_chooses_122 g vs st M = some r → WX X 5 o 122 vs st M := by
  intro vs st M h
  unfold kd_X12_chooses_122 at h
  obtain ⟨x0, h0, h⟩ := Option.bind_eq_some_iff.mp h
  obtain ⟨x2, h2, h⟩ := Option.bind_eq_some_iff.mp h
  split at h
  · exact WX_weak (hg _ _ _ h) rfl ⟨lR_of h0, lI_of h2, trivial⟩
  · cases h
def kd_X12_chooses_135 (g : Nat → Int32 → Int32 → Int32 → cM → Option (cM)) : cKf (cM) := fun vs st M => (lR vs 0).bind fun x0 => (lI vs 2).bind fun x2 => (lI vs 3).bind fun x3 => (lI vs 4).bind fun x4 => match st with
  | [] => g x0 x2 x3 x4 M
  | _ => none
theorem kf_X12_chooses_135 {X : cCtx} {o : cO} {r : cM} {g : Nat → Int32 → Int32 → Int32 → cM → Option (cM)} (hg : ∀ x0 x2 x3 x4 M, g x0 x2 x3 x4 M = some r → WX X 5 o 135 [some (.ref x0), none, some (.int x2), some (.int x3), some (.int x4)] [] M) : ∀ vs st M, kd_X12_chooses_135 g vs st M = some r → WX X 5 o 135 vs st M := by
  intro vs st M h
  unfold kd_X12_chooses_135 at h
  obtain ⟨x0, h0, h⟩ := Option.bind_eq_some_iff.mp h
  obtain ⟨x2, h2, h⟩ := Option.bind_eq_some_iff.mp h
  obtain ⟨x3, h3, h⟩ := Option.bind_eq_some_iff.mp h
  obtain ⟨x4, h4, h⟩ := Option.bind_eq_some_iff.mp h
  split at h
  · exact WX_weak (hg _ _ _ _ _ h) rfl ⟨lR_of h0, lI_of h2, lI_of h3, lI_of h4, trivial⟩
  · cases h
set_option maxRecDepth 20000 in
theorem e_X12_chooses_135 (F : Nat) (t122 : Nat → Int32 → cM → Option (cM)) (t135 : Nat → Int32 → Int32 → Int32 → cM → Option (cM)) (x0 : Nat) (x2 : Int32) (x3 : Int32) (x4 : Int32) (M : cM) : b_X12_chooses_135 F t122 t135 x0 x2 x3 x4 M = run T_X12_chooses P_RX12 false 5 (naL na_X12_chooses) (caL (ca_X12_chooses F)) (lkN th_X12_chooses) (lkN sw_X12_chooses) krV kxN (spL [122, 135]) (KL [(122, kd_X12_chooses_122 t122), (135, kd_X12_chooses_135 t135)]) 126 135 [some (.ref x0), none, some (.int x2), some (.int x3), some (.int x4)] [] M := rfl
theorem ok_X12_chooses_135 {X : cCtx} {D : Nat} {r : cM} (G : FX X 5 (eV r) cX12_chooses RX12 5 D) {F : Nat} (hca : ∀ x ∈ (ca_X12_chooses (R' := cM) F), 1 ≤ D ∧ ceS X.1 RX12 (D - 1) x.1 x.2) (k122 : Nat → Int32 → cM → Option (cM)) (hk122 : ∀ x0 x2 M, k122 x0 x2 M = some r → WX X 5 (eV r) 122 [some (.ref x0), none, some (.int x2), none, none] [] M) (n : Nat) : ∀ x0 x2 x3 x4 M, f_X12_chooses_135 F k122 n x0 x2 x3 x4 M = some r → WX X 5 (eV r) 135 [some (.ref x0), none, some (.int x2), some (.int x3), some (.int x4)] [] M := by
  induction n with
  | zero => intro x0 x2 x3 x4 M h; cases h
  | succ n ih =>
    intro x0 x2 x3 x4 M h
    exact seg_ok G P_RX12_ok T_X12_chooses_ok hca (fun _ h => absurd h List.not_mem_nil) sw_X12_chooses_ok krV_ok (kxN_ok (f := eV)) (List.forall_mem_cons.mpr ⟨kf_X12_chooses_122 (hk122), List.forall_mem_cons.mpr ⟨kf_X12_chooses_135 (ih), fun _ h => absurd h List.not_mem_nil⟩⟩) ((e_X12_chooses_135 F (k122) (f_X12_chooses_135 F k122 n) x0 x2 x3 x4 M).symm.trans h)
set_option maxRecDepth 20000 in
theorem e_X12_chooses_122 (F : Nat) (t135 : Nat → Int32 → Int32 → Int32 → cM → Option (cM)) (x0 : Nat) (x2 : Int32) (M : cM) : b_X12_chooses_122 F t135 x0 x2 M = run T_X12_chooses P_RX12 false 5 (naL na_X12_chooses) (caL (ca_X12_chooses F)) (lkN th_X12_chooses) (lkN sw_X12_chooses) krV kxN (spL [135]) (KL [(135, kd_X12_chooses_135 t135)]) 126 122 [some (.ref x0), none, some (.int x2), none, none] [] M := rfl
theorem ok_X12_chooses_122 {X : cCtx} {D : Nat} {r : cM} (G : FX X 5 (eV r) cX12_chooses RX12 5 D) {F : Nat} (hca : ∀ x ∈ (ca_X12_chooses (R' := cM) F), 1 ≤ D ∧ ceS X.1 RX12 (D - 1) x.1 x.2) (n : Nat) : ∀ x0 x2 M, f_X12_chooses_122 F n x0 x2 M = some r → WX X 5 (eV r) 122 [some (.ref x0), none, some (.int x2), none, none] [] M := by
  induction n with
  | zero => intro x0 x2 M h; cases h
  | succ n ih =>
    intro x0 x2 M h
    exact seg_ok G P_RX12_ok T_X12_chooses_ok hca (fun _ h => absurd h List.not_mem_nil) sw_X12_chooses_ok krV_ok (kxN_ok (f := eV)) (List.forall_mem_cons.mpr ⟨kf_X12_chooses_135 (ok_X12_chooses_135 G hca (f_X12_chooses_122 F n) ih F), fun _ h => absurd h List.not_mem_nil⟩) ((e_X12_chooses_122 F (f_X12_chooses_135 F (f_X12_chooses_122 F n) F) x0 x2 M).symm.trans h)
set_option maxRecDepth 20000 in
theorem e_X12_chooses_57 (F : Nat) (t12 : Nat → Int32 → Int32 → cM → Option (cM)) (x0 : Nat) (x1 : Int32) (x2 : Int32) (M : cM) : b_X12_chooses_57 F t12 x0 x1 x2 M = run T_X12_chooses P_RX12 false 5 (naL na_X12_chooses) (caL (ca_X12_chooses F)) (lkN th_X12_chooses) (lkN sw_X12_chooses) krV kxN (spL [12]) (KL [(12, kd_X12_chooses_12 t12)]) 126 57 [some (.ref x0), some (.int x1), some (.int x2), none, none] [] M := rfl
theorem ok_X12_chooses_57 {X : cCtx} {D : Nat} {r : cM} (G : FX X 5 (eV r) cX12_chooses RX12 5 D) {F : Nat} (hca : ∀ x ∈ (ca_X12_chooses (R' := cM) F), 1 ≤ D ∧ ceS X.1 RX12 (D - 1) x.1 x.2) (k12 : Nat → Int32 → Int32 → cM → Option (cM)) (hk12 : ∀ x0 x1 x2 M, k12 x0 x1 x2 M = some r → WX X 5 (eV r) 12 [some (.ref x0), some (.int x1), some (.int x2), none, none] [] M) : ∀ x0 x1 x2 M, f_X12_chooses_57 F k12 x0 x1 x2 M = some r → WX X 5 (eV r) 57 [some (.ref x0), some (.int x1), some (.int x2), none, none] [] M := by
  intro x0 x1 x2 M h
  exact seg_ok G P_RX12_ok T_X12_chooses_ok hca (fun _ h => absurd h List.not_mem_nil) sw_X12_chooses_ok krV_ok (kxN_ok (f := eV)) (List.forall_mem_cons.mpr ⟨kf_X12_chooses_12 (hk12), fun _ h => absurd h List.not_mem_nil⟩) ((e_X12_chooses_57 F (k12) x0 x1 x2 M).symm.trans h)
set_option maxRecDepth 20000 in
theorem e_X12_chooses_12 (F : Nat) (t12 : Nat → Int32 → Int32 → cM → Option (cM)) (t57 : Nat → Int32 → Int32 → cM → Option (cM)) (t122 : Nat → Int32 → cM → Option (cM)) (x0 : Nat) (x1 : Int32) (x2 : Int32) (M : cM) : b_X12_chooses_12 F t12 t57 t122 x0 x1 x2 M = run T_X12_chooses P_RX12 false 5 (naL na_X12_chooses) (caL (ca_X12_chooses F)) (lkN th_X12_chooses) (lkN sw_X12_chooses) krV kxN (spL [12, 57, 122]) (KL [(12, kd_X12_chooses_12 t12), (57, kd_X12_chooses_57 t57), (122, kd_X12_chooses_122 t122)]) 126 12 [some (.ref x0), some (.int x1), some (.int x2), none, none] [] M := rfl
theorem ok_X12_chooses_12 {X : cCtx} {D : Nat} {r : cM} (G : FX X 5 (eV r) cX12_chooses RX12 5 D) {F : Nat} (hca : ∀ x ∈ (ca_X12_chooses (R' := cM) F), 1 ≤ D ∧ ceS X.1 RX12 (D - 1) x.1 x.2) (n : Nat) : ∀ x0 x1 x2 M, f_X12_chooses_12 F n x0 x1 x2 M = some r → WX X 5 (eV r) 12 [some (.ref x0), some (.int x1), some (.int x2), none, none] [] M := by
  induction n with
  | zero => intro x0 x1 x2 M h; cases h
  | succ n ih =>
    intro x0 x1 x2 M h
    exact seg_ok G P_RX12_ok T_X12_chooses_ok hca (fun _ h => absurd h List.not_mem_nil) sw_X12_chooses_ok krV_ok (kxN_ok (f := eV)) (List.forall_mem_cons.mpr ⟨kf_X12_chooses_12 (ih), List.forall_mem_cons.mpr ⟨kf_X12_chooses_57 (ok_X12_chooses_57 G hca (f_X12_chooses_12 F n) ih), List.forall_mem_cons.mpr ⟨kf_X12_chooses_122 (ok_X12_chooses_122 G hca F), fun _ h => absurd h List.not_mem_nil⟩⟩⟩) ((e_X12_chooses_12 F (f_X12_chooses_12 F n) (f_X12_chooses_57 F (f_X12_chooses_12 F n)) (f_X12_chooses_122 F F) x0 x1 x2 M).symm.trans h)
set_option maxRecDepth 20000 in
theorem e_X12_chooses_0 (F : Nat) (t12 : Nat → Int32 → Int32 → cM → Option (cM)) (x0 : Nat) (x1 : Int32) (M : cM) : b_X12_chooses_0 F t12 x0 x1 M = run T_X12_chooses P_RX12 false 5 (naL na_X12_chooses) (caL (ca_X12_chooses F)) (lkN th_X12_chooses) (lkN sw_X12_chooses) krV kxN (spL [12]) (KL [(12, kd_X12_chooses_12 t12)]) 126 0 [some (.ref x0), some (.int x1), none, none, none] [] M := rfl
theorem ok_X12_chooses_0 {X : cCtx} {D : Nat} {r : cM} (G : FX X 5 (eV r) cX12_chooses RX12 5 D) {F : Nat} (hca : ∀ x ∈ (ca_X12_chooses (R' := cM) F), 1 ≤ D ∧ ceS X.1 RX12 (D - 1) x.1 x.2) : ∀ x0 x1 M, f_X12_chooses_0 F x0 x1 M = some r → WX X 5 (eV r) 0 [some (.ref x0), some (.int x1), none, none, none] [] M := by
  intro x0 x1 M h
  exact seg_ok G P_RX12_ok T_X12_chooses_ok hca (fun _ h => absurd h List.not_mem_nil) sw_X12_chooses_ok krV_ok (kxN_ok (f := eV)) (List.forall_mem_cons.mpr ⟨kf_X12_chooses_12 (ok_X12_chooses_12 G hca F), fun _ h => absurd h List.not_mem_nil⟩) ((e_X12_chooses_0 F (f_X12_chooses_12 F F) x0 x1 M).symm.trans h)
theorem c_X12_chooses {q : cL} (hst : q.1.stackTraces = false) {D : Nat} (hD : 0 ≤ D) (F : Nat) (a0 : Nat) (a1 : Int32) (M : cM) (r : cM) (h : f_X12_chooses F a0 a1 M = some r) : CTx q yX12_chooses (.code yX12_chooses cX12_chooses 5 none) D [.ref a0, .int a1] M (eV r) ∧ ∃ fs, M[a0]? = some (.inr (10, fs)) := by
  unfold f_X12_chooses at h
  split at h
  · next hi => exact ⟨CTx_of (own := RX12) (rk := 5) hst (by decide +kernel) rfl (rfl) (Nat.le_of_ble_eq_true rfl) (fun X hX G => by subst hX; exact ok_X12_chooses_0 G (ca_X12_chooses_ok hst hD F) a0 a1 M h), isC_of hi⟩
  · cases h
def n_X12_chooses {R' : Type} (f : Nat → Int32 → cM → Option (cM)) : cFn R' := fun as M κ κx => match as with
  | [.ref a0, .int a1] => (f a0 a1 M).bind fun p => κ none p
  | _ => none
theorem w_X12_chooses : ∀ w ∈ [Cond.instanceMethod yX12_chooses, .selects yX12_chooses.cls yX12_chooses yX12_chooses, .initialized yX12_chooses.cls, .code yX12_chooses cX12_chooses 5 none], w ∈ lw_good := List.forall_mem_cons.mpr ⟨lw_good_of (tb_ok 1494 (by decide +kernel)) rfl, List.forall_mem_cons.mpr ⟨lw_good_of (ts_ok 53 (by decide +kernel)) rfl, List.forall_mem_cons.mpr ⟨lw_good_of (tb_ok 11 (by decide +kernel)) rfl, List.forall_mem_cons.mpr ⟨lw_good_of (tb_ok 1495 (by decide +kernel)) rfl, fun _ h => absurd h List.not_mem_nil⟩⟩⟩⟩
theorem n_X12_chooses_ok {R' : Type} {q : cL} {own : String} {d k : Nat} {f : Nat → Int32 → cM → Option (cM)} (hl : Cond.methodLink own k yX12_chooses ∈ lw_good) (hf : ∀ a0 a1 M r, f a0 a1 M = some r → CTx q yX12_chooses (.code yX12_chooses cX12_chooses 5 none) d [.ref a0, .int a1] M (eV r) ∧ ∃ fs, M[a0]? = some (.inr (10, fs))) : ceS q own d (3 * k + 1) (n_X12_chooses (R' := R') f) := by
  intro as M κ κx r h
  unfold n_X12_chooses at h
  split at h
  · obtain ⟨p, h1, h2⟩ := Option.bind_eq_some_iff.mp h
    obtain ⟨hc, fs, ha⟩ := hf _ _ _ _ h1
    exact ⟨eV p, fun _ => h2, fun hne => absurd rfl hne, Or.inr (Or.inl ⟨yX12_chooses, cX12_chooses, 5, none, k, 1, _, _, 10, TX12, 76, fs, rfl, rfl, hc, ha, rfl, List.forall_mem_cons.mpr ⟨hl, w_X12_chooses⟩, ⟨rfl, by decide +kernel, by decide +kernel, by decide +kernel⟩, rfl, by decide⟩)⟩
  · cases h
