/-! METHODS, part 13 (laid by wip/whole/tools/gen.py) -/
-- PatchbayScriptModel.refuse(II)I
def T_X12_refuse : List cRow := [(0, .aload_n 0, 1, 0), (1, .iload_n 1, 2, 0), (2, .invokestatic 287, 5, 0), (5, .ifCond .eq 11, 8, 16), (8, .aload_n 0, 9, 0), (9, .iload_n 2, 10, 0), (10, .invokevirtual 281, 13, 0), (13, .ifCond .ne 7, 16, 20), (16, .iconst 1, 17, 0), (17, .goto 27, 20, 44), (20, .aload_n 0, 21, 0), (21, .getfield 73, 24, 0), (24, .iload_n 1, 25, 0), (25, .baload, 26, 0), (26, .ifCond .eq 13, 29, 39), (29, .aload_n 0, 30, 0), (30, .getfield 43, 33, 0), (33, .iload_n 1, 34, 0), (34, .iaload, 35, 0), (35, .iconst 4, 36, 0), (36, .if_icmp .ne 7, 39, 43), (39, .iconst 2, 40, 0), (40, .goto 4, 43, 44), (43, .iconst 0, 44, 0), (44, .putfield 196, 47, 0), (47, .aload_n 0, 48, 0), (48, .getfield 196, 51, 0), (51, .ifCond .le 5, 54, 56), (54, .iconst 0, 55, 0), (55, .ireturn, 56, 0), (56, .iconst 4, 57, 0), (57, .iload_n 1, 58, 0), (58, .imul, 59, 0), (59, .aload_n 0, 60, 0), (60, .getfield 43, 63, 0), (63, .iload_n 1, 64, 0), (64, .iaload, 65, 0), (65, .iadd, 66, 0), (66, .istore_n 3, 67, 0), (67, .aload_n 0, 68, 0), (68, .iload_n 2, 69, 0), (69, .invokevirtual 284, 72, 0), (72, .aload_n 0, 73, 0), (73, .iconst 2, 74, 0), (74, .iload_n 1, 75, 0), (75, .imul, 76, 0), (76, .aload_n 0, 77, 0), (77, .getfield 77, 80, 0), (80, .iload_n 1, 81, 0), (81, .iaload, 82, 0), (82, .invokevirtual 263, 85, 0), (85, .ifCond .ne 9, 88, 94), (88, .aload_n 0, 89, 0), (89, .iconst 2, 90, 0), (90, .invokevirtual 293, 93, 0), (93, .ireturn, 94, 0), (94, .iconst 0, 95, 0), (95, .istore 4, 97, 0), (97, .iload 4, 99, 0), (99, .aload_n 0, 100, 0), (100, .getfield 214, 103, 0), (103, .if_icmp .ge 28, 106, 131), (106, .aload_n 0, 107, 0), (107, .getfield 46, 110, 0), (110, .bipush 20, 112, 0), (112, .iload_n 3, 113, 0), (113, .imul, 114, 0), (114, .iload 4, 116, 0), (116, .iadd, 117, 0), (117, .aload_n 0, 118, 0), (118, .getfield 113, 121, 0), (121, .iload 4, 123, 0), (123, .iaload, 124, 0), (124, .iastore, 125, 0), (125, .iinc 4 1, 128, 0), (128, .goto (-31), 131, 97), (131, .aload_n 0, 132, 0), (132, .getfield 49, 135, 0), (135, .iload_n 3, 136, 0), (136, .aload_n 0, 137, 0), (137, .getfield 214, 140, 0), (140, .iastore, 141, 0), (141, .iconst 0, 142, 0), (142, .istore 4, 144, 0), (144, .iload 4, 146, 0), (146, .aload_n 0, 147, 0), (147, .getfield 228, 150, 0), (150, .if_icmp .ge 28, 153, 178), (153, .aload_n 0, 154, 0), (154, .getfield 52, 157, 0), (157, .bipush 20, 159, 0), (159, .iload_n 3, 160, 0), (160, .imul, 161, 0), (161, .iload 4, 163, 0), (163, .iadd, 164, 0), (164, .aload_n 0, 165, 0), (165, .getfield 125, 168, 0), (168, .iload 4, 170, 0), (170, .iaload, 171, 0), (171, .iastore, 172, 0), (172, .iinc 4 1, 175, 0), (175, .goto (-31), 178, 144), (178, .aload_n 0, 179, 0), (179, .getfield 55, 182, 0), (182, .iload_n 3, 183, 0), (183, .aload_n 0, 184, 0), (184, .getfield 228, 187, 0), (187, .iastore, 188, 0), (188, .aload_n 0, 189, 0), (189, .getfield 43, 192, 0), (192, .iload_n 1, 193, 0), (193, .dup2, 194, 0), (194, .iaload, 195, 0), (195, .iconst 1, 196, 0), (196, .iadd, 197, 0), (197, .iastore, 198, 0), (198, .aload_n 0, 199, 0), (199, .getfield 43, 202, 0), (202, .iload_n 1, 203, 0), (203, .iaload, 204, 0), (204, .ireturn, 205, 0)]
theorem T_X12_refuse_ok : T_X12_refuse.all (rowB cX12_refuse) = true := by decide +kernel
def th_X12_refuse : List (Nat × Nat) := []
def sw_X12_refuse : List (Nat × (List (Int32 × Nat) × Nat)) := []
theorem sw_X12_refuse_ok : ∀ q ∈ sw_X12_refuse, swS cX12_refuse q := fun _ h => absurd h List.not_mem_nil
def na_X12_refuse : List (Nat × Nat) := [(861, 1), (844, 2), (853, 2), (790, 3), (880, 2)]
def ca_X12_refuse {R' : Type} (F : Nat) : List (Nat × cFn R') := [(861, n_X12_isTask (f_X12_isTask F)), (844, n_X12_isLine (f_X12_isLine F)), (853, n_X12_laysLine (f_X12_laysLine F)), (790, n_X12_makesBy (f_X12_makesBy F)), (880, n_X12_fails (f_X12_fails F))]
theorem ca_X12_refuse_ok {R' : Type} {q : cL} (hst : q.1.stackTraces = false) {D : Nat} (hD : 6 ≤ D) (F : Nat) : ∀ x ∈ (ca_X12_refuse (R' := R') F), 1 ≤ D ∧ ceS q RX12 (D - 1) x.1 x.2 := List.forall_mem_cons.mpr ⟨⟨by omega, n_X12_isTask_ok (k := 287) (lw_good_of (tb_ok 1435 (by decide +kernel)) rfl) (fun a0 M r h => c_X12_isTask hst (by omega) F a0 M r h)⟩, List.forall_mem_cons.mpr ⟨⟨by omega, n_X12_isLine_ok (k := 281) (lw_good_of (tb_ok 1419 (by decide +kernel)) rfl) (fun a0 a1 M r h => c_X12_isLine hst (by omega) F a0 a1 M r h)⟩, List.forall_mem_cons.mpr ⟨⟨by omega, n_X12_laysLine_ok (k := 284) (lw_good_of (tb_ok 1363 (by decide +kernel)) rfl) (fun a0 a1 M r h => c_X12_laysLine hst (by omega) F a0 a1 M r h)⟩, List.forall_mem_cons.mpr ⟨⟨by omega, n_X12_makesBy_ok (k := 263) (lw_good_of (tb_ok 1378 (by decide +kernel)) rfl) (fun a0 a1 a2 M r h => c_X12_makesBy hst (by omega) F a0 a1 a2 M r h)⟩, List.forall_mem_cons.mpr ⟨⟨by omega, n_X12_fails_ok (k := 293) (lw_good_of (tb_ok 1446 (by decide +kernel)) rfl) (fun a0 a1 M r h => c_X12_fails hst (by omega) F a0 a1 M r h)⟩, fun _ h => absurd h List.not_mem_nil⟩⟩⟩⟩⟩
def kd_X12_refuse_44 (g : Nat → Int32 → Int32 → Nat → Int32 → cM → Option (Int32 × cM)) : cKf (Int32 × cM) := fun vs st M => (lR vs 0).bind fun x0 => (lI vs 1).bind fun x1 => (lI vs 2).bind fun x2 => match st with
  | [.int s1, .ref s0] => g x0 x1 x2 s0 s1 M
  | _ => none
theorem kf_X12_refuse_44 {X : cCtx} {o : cO} {r : Int32 × cM} {g : Nat → Int32 → Int32 → Nat → Int32 → cM → Option (Int32 × cM)} (hg : ∀ x0 x1 x2 s0 s1 M, g x0 x1 x2 s0 s1 M = some r → WX X 5 o 44 [some (.ref x0), some (.int x1), some (.int x2), none, none] [.int s1, .ref s0] M) : ∀ vs st M, kd_X12_refuse_44 g vs st M = some r → WX X 5 o 44 vs st M := by
  intro vs st M h
  unfold kd_X12_refuse_44 at h
  obtain ⟨x0, h0, h⟩ := Option.bind_eq_some_iff.mp h
  obtain ⟨x1, h1, h⟩ := Option.bind_eq_some_iff.mp h
  obtain ⟨x2, h2, h⟩ := Option.bind_eq_some_iff.mp h
  split at h
  · exact WX_weak (hg _ _ _ _ _ _ h) rfl ⟨lR_of h0, lI_of h1, lI_of h2, trivial⟩
  · cases h
def kd_X12_refuse_97 (g : Nat → Int32 → Int32 → Int32 → cM → Option (Int32 × cM)) : cKf (Int32 × cM) := fun vs st M => (lR vs 0).bind fun x0 => (lI vs 1).bind fun x1 => (lI vs 3).bind fun x3 => (lI vs 4).bind fun x4 => match st with
  | [] => g x0 x1 x3 x4 M
  | _ => none
theorem kf_X12_refuse_97 {X : cCtx} {o : cO} {r : Int32 × cM} {g : Nat → Int32 → Int32 → Int32 → cM → Option (Int32 × cM)} (hg : ∀ x0 x1 x3 x4 M, g x0 x1 x3 x4 M = some r → WX X 5 o 97 [some (.ref x0), some (.int x1), none, some (.int x3), some (.int x4)] [] M) : ∀ vs st M, kd_X12_refuse_97 g vs st M = some r → WX X 5 o 97 vs st M := by
  intro vs st M h
  unfold kd_X12_refuse_97 at h
  obtain ⟨x0, h0, h⟩ := Option.bind_eq_some_iff.mp h
  obtain ⟨x1, h1, h⟩ := Option.bind_eq_some_iff.mp h
  obtain ⟨x3, h3, h⟩ := Option.bind_eq_some_iff.mp h
  obtain ⟨x4, h4, h⟩ := Option.bind_eq_some_iff.mp h
  split at h
  · exact WX_weak (hg _ _ _ _ _ h) rfl ⟨lR_of h0, lI_of h1, lI_of h3, lI_of h4, trivial⟩
  · cases h
def kd_X12_refuse_144 (g : Nat → Int32 → Int32 → Int32 → cM → Option (Int32 × cM)) : cKf (Int32 × cM) := fun vs st M => (lR vs 0).bind fun x0 => (lI vs 1).bind fun x1 => (lI vs 3).bind fun x3 => (lI vs 4).bind fun x4 => match st with
  | [] => g x0 x1 x3 x4 M
  | _ => none
theorem kf_X12_refuse_144 {X : cCtx} {o : cO} {r : Int32 × cM} {g : Nat → Int32 → Int32 → Int32 → cM → Option (Int32 × cM)} (hg : ∀ x0 x1 x3 x4 M, g x0 x1 x3 x4 M = some r → WX X 5 o 144 [some (.ref x0), some (.int x1), none, some (.int x3), some (.int x4)] [] M) : ∀ vs st M, kd_X12_refuse_144 g vs st M = some r → WX X 5 o 144 vs st M := by
  intro vs st M h
  unfold kd_X12_refuse_144 at h
  obtain ⟨x0, h0, h⟩ := Option.bind_eq_some_iff.mp h
  obtain ⟨x1, h1, h⟩ := Option.bind_eq_some_iff.mp h
  obtain ⟨x3, h3, h⟩ := Option.bind_eq_some_iff.mp h
  obtain ⟨x4, h4, h⟩ := Option.bind_eq_some_iff.mp h
  split at h
  · exact WX_weak (hg _ _ _ _ _ h) rfl ⟨lR_of h0, lI_of h1, lI_of h3, lI_of h4, trivial⟩
  · cases h
set_option maxRecDepth 20000 in
theorem e_X12_refuse_144 (F : Nat) (t144 : Nat → Int32 → Int32 → Int32 → cM → Option (Int32 × cM)) (x0 : Nat) (x1 : Int32) (x3 : Int32) (x4 : Int32) (M : cM) : b_X12_refuse_144 F t144 x0 x1 x3 x4 M = run T_X12_refuse P_RX12 false 0 (naL na_X12_refuse) (caL (ca_X12_refuse F)) (lkN th_X12_refuse) (lkN sw_X12_refuse) krI kxN (spL [144]) (KL [(144, kd_X12_refuse_144 t144)]) 124 144 [some (.ref x0), some (.int x1), none, some (.int x3), some (.int x4)] [] M := rfl
theorem ok_X12_refuse_144 {X : cCtx} {D : Nat} {r : Int32 × cM} (G : FX X 5 (eI r) cX12_refuse RX12 0 D) {F : Nat} (hca : ∀ x ∈ (ca_X12_refuse (R' := Int32 × cM) F), 1 ≤ D ∧ ceS X.1 RX12 (D - 1) x.1 x.2) (n : Nat) : ∀ x0 x1 x3 x4 M, f_X12_refuse_144 F n x0 x1 x3 x4 M = some r → WX X 5 (eI r) 144 [some (.ref x0), some (.int x1), none, some (.int x3), some (.int x4)] [] M := by
  induction n with
  | zero => intro x0 x1 x3 x4 M h; cases h
  | succ n ih =>
    intro x0 x1 x3 x4 M h
    exact seg_ok G P_RX12_ok T_X12_refuse_ok hca (fun _ h => absurd h List.not_mem_nil) sw_X12_refuse_ok krI_ok (kxN_ok (f := eI)) (List.forall_mem_cons.mpr ⟨kf_X12_refuse_144 (ih), fun _ h => absurd h List.not_mem_nil⟩) ((e_X12_refuse_144 F (f_X12_refuse_144 F n) x0 x1 x3 x4 M).symm.trans h)
set_option maxRecDepth 20000 in
theorem e_X12_refuse_97 (F : Nat) (t97 : Nat → Int32 → Int32 → Int32 → cM → Option (Int32 × cM)) (t144 : Nat → Int32 → Int32 → Int32 → cM → Option (Int32 × cM)) (x0 : Nat) (x1 : Int32) (x3 : Int32) (x4 : Int32) (M : cM) : b_X12_refuse_97 F t97 t144 x0 x1 x3 x4 M = run T_X12_refuse P_RX12 false 0 (naL na_X12_refuse) (caL (ca_X12_refuse F)) (lkN th_X12_refuse) (lkN sw_X12_refuse) krI kxN (spL [97, 144]) (KL [(97, kd_X12_refuse_97 t97), (144, kd_X12_refuse_144 t144)]) 124 97 [some (.ref x0), some (.int x1), none, some (.int x3), some (.int x4)] [] M := rfl
theorem ok_X12_refuse_97 {X : cCtx} {D : Nat} {r : Int32 × cM} (G : FX X 5 (eI r) cX12_refuse RX12 0 D) {F : Nat} (hca : ∀ x ∈ (ca_X12_refuse (R' := Int32 × cM) F), 1 ≤ D ∧ ceS X.1 RX12 (D - 1) x.1 x.2) (n : Nat) : ∀ x0 x1 x3 x4 M, f_X12_refuse_97 F n x0 x1 x3 x4 M = some r → WX X 5 (eI r) 97 [some (.ref x0), some (.int x1), none, some (.int x3), some (.int x4)] [] M := by
  induction n with
  | zero => intro x0 x1 x3 x4 M h; cases h
  | succ n ih =>
    intro x0 x1 x3 x4 M h
    exact seg_ok G P_RX12_ok T_X12_refuse_ok hca (fun _ h => absurd h List.not_mem_nil) sw_X12_refuse_ok krI_ok (kxN_ok (f := eI)) (List.forall_mem_cons.mpr ⟨kf_X12_refuse_97 (ih), List.forall_mem_cons.mpr ⟨kf_X12_refuse_144 (ok_X12_refuse_144 G hca F), fun _ h => absurd h List.not_mem_nil⟩⟩) ((e_X12_refuse_97 F (f_X12_refuse_97 F n) (f_X12_refuse_144 F F) x0 x1 x3 x4 M).symm.trans h)
set_option maxRecDepth 20000 in
theorem e_X12_refuse_44 (F : Nat) (t97 : Nat → Int32 → Int32 → Int32 → cM → Option (Int32 × cM)) (x0 : Nat) (x1 : Int32) (x2 : Int32) (s0 : Nat) (s1 : Int32) (M : cM) : b_X12_refuse_44 F t97 x0 x1 x2 s0 s1 M = run T_X12_refuse P_RX12 false 0 (naL na_X12_refuse) (caL (ca_X12_refuse F)) (lkN th_X12_refuse) (lkN sw_X12_refuse) krI kxN (spL [97]) (KL [(97, kd_X12_refuse_97 t97)]) 124 44 [some (.ref x0), some (.int x1), some (.int x2), none, none] [.int s1, .ref s0] M := rfl
theorem ok_X12_refuse_44 {X : cCtx} {D : Nat} {r : Int32 × cM} (G : FX X 5 (eI r) cX12_refuse RX12 0 D) {F : Nat} (hca : ∀ x ∈ (ca_X12_refuse (R' := Int32 × cM) F), 1 ≤ D ∧ ceS X.1 RX12 (D - 1) x.1 x.2) : ∀ x0 x1 x2 s0 s1 M, f_X12_refuse_44 F x0 x1 x2 s0 s1 M = some r → WX X 5 (eI r) 44 [some (.ref x0), some (.int x1), some (.int x2), none, none] [.int s1, .ref s0] M := by
  intro x0 x1 x2 s0 s1 M h
  exact seg_ok G P_RX12_ok T_X12_refuse_ok hca (fun _ h => absurd h List.not_mem_nil) sw_X12_refuse_ok krI_ok (kxN_ok (f := eI)) (List.forall_mem_cons.mpr ⟨kf_X12_refuse_97 (ok_X12_refuse_97 G hca F), fun _ h => absurd h List.not_mem_nil⟩) ((e_X12_refuse_44 F (f_X12_refuse_97 F F) x0 x1 x2 s0 s1 M).symm.trans h)
set_option maxRecDepth 20000 in
theorem e_X12_refuse_0 (F : Nat) (t44 : Nat → Int32 → Int32 → Nat → Int32 → cM → Option (Int32 × cM)) (x0 : Nat) (x1 : Int32) (x2 : Int32) (M : cM) : b_X12_refuse_0 F t44 x0 x1 x2 M = run T_X12_refuse P_RX12 false 0 (naL na_X12_refuse) (caL (ca_X12_refuse F)) (lkN th_X12_refuse) (lkN sw_X12_refuse) krI kxN (spL [44]) (KL [(44, kd_X12_refuse_44 t44)]) 124 0 [some (.ref x0), some (.int x1), some (.int x2), none, none] [] M := rfl
theorem ok_X12_refuse_0 {X : cCtx} {D : Nat} {r : Int32 × cM} (G : FX X 5 (eI r) cX12_refuse RX12 0 D) {F : Nat} (hca : ∀ x ∈ (ca_X12_refuse (R' := Int32 × cM) F), 1 ≤ D ∧ ceS X.1 RX12 (D - 1) x.1 x.2) : ∀ x0 x1 x2 M, f_X12_refuse_0 F x0 x1 x2 M = some r → WX X 5 (eI r) 0 [some (.ref x0), some (.int x1), some (.int x2), none, none] [] M := by
  intro x0 x1 x2 M h
  exact seg_ok G P_RX12_ok T_X12_refuse_ok hca (fun _ h => absurd h List.not_mem_nil) sw_X12_refuse_ok krI_ok (kxN_ok (f := eI)) (List.forall_mem_cons.mpr ⟨kf_X12_refuse_44 (ok_X12_refuse_44 G hca), fun _ h => absurd h List.not_mem_nil⟩) ((e_X12_refuse_0 F (f_X12_refuse_44 F) x0 x1 x2 M).symm.trans h)
theorem c_X12_refuse {q : cL} (hst : q.1.stackTraces = false) {D : Nat} (hD : 6 ≤ D) (F : Nat) (a0 : Nat) (a1 : Int32) (a2 : Int32) (M : cM) (r : Int32 × cM) (h : f_X12_refuse F a0 a1 a2 M = some r) : CTx q yX12_refuse (.code yX12_refuse cX12_refuse 5 (some .int)) D [.ref a0, .int a1, .int a2] M (eI r) ∧ ∃ fs, M[a0]? = some (.inr (10, fs)) := by
  unfold f_X12_refuse at h
  split at h
  · next hi => exact ⟨CTx_of (own := RX12) (rk := 0) hst (by decide +kernel) rfl (rfl) (Nat.le_of_ble_eq_true rfl) (fun X hX G => by subst hX; exact ok_X12_refuse_0 G (ca_X12_refuse_ok hst hD F) a0 a1 a2 M h), isC_of hi⟩
  · cases h
-- PatchbayScriptModel.pin(IIIIII)I
def T_X12_pin : List cRow := [(0, .iload 4, 2, 0), (2, .iconst 0, 3, 0), (3, .bipush 29, 5, 0), (5, .invokestatic 200, 8, 0), (8, .ifCond .eq 28, 11, 36), (11, .iload 5, 13, 0), (13, .iconst 0, 14, 0), (14, .bipush 29, 16, 0), (16, .invokestatic 200, 19, 0), (19, .ifCond .eq 17, 22, 36), (22, .iload 6, 24, 0), (24, .iconst 0, 25, 0), (25, .iconst 3, 26, 0), (26, .invokestatic 200, 29, 0), (29, .ifCond .eq 7, 32, 36), (32, .iconst 1, 33, 0), (33, .goto 4, 36, 37), (36, .iconst 0, 37, 0), (37, .istore 7, 39, 0), (39, .iload 4, 41, 0), (41, .iconst 0, 42, 0), (42, .iconst 3, 43, 0), (43, .invokestatic 200, 46, 0), (46, .ifCond .eq 27, 49, 73), (49, .iload 5, 51, 0), (51, .iconst 0, 52, 0), (52, .iconst 2, 53, 0), (53, .invokestatic 200, 56, 0), (56, .ifCond .eq 17, 59, 73), (59, .iload 6, 61, 0), (61, .iconst 0, 62, 0), (62, .iconst 5, 63, 0), (63, .invokestatic 200, 66, 0), (66, .ifCond .eq 7, 69, 73), (69, .iconst 1, 70, 0), (70, .goto 4, 73, 74), (73, .iconst 0, 74, 0), (74, .istore 8, 76, 0), (76, .iload_n 3, 77, 0), (77, .iconst (-1), 78, 0), (78, .if_icmp .eq 27, 81, 105), (81, .iload_n 3, 82, 0), (82, .ifCond .eq 23, 85, 105), (85, .iload_n 3, 86, 0), (86, .iconst 1, 87, 0), (87, .if_icmp .ne 8, 90, 95), (90, .iload 7, 92, 0), (92, .ifCond .ne 13, 95, 105), (95, .iload_n 3, 96, 0), (96, .iconst 2, 97, 0), (97, .if_icmp .ne 12, 100, 109), (100, .iload 8, 102, 0), (102, .ifCond .eq 7, 105, 109), (105, .iconst 1, 106, 0), (106, .goto 4, 109, 110), (109, .iconst 0, 110, 0), (110, .istore 9, 112, 0), (112, .aload_n 0, 113, 0), (113, .iload_n 1, 114, 0), (114, .invokestatic 287, 117, 0), (117, .ifCond .eq 12, 120, 129), (120, .iload_n 2, 121, 0), (121, .iconst 0, 122, 0), (122, .iconst 3, 123, 0), (123, .invokestatic 200, 126, 0), (126, .ifCond .ne 7, 129, 133), (129, .iconst 1, 130, 0), (130, .goto 33, 133, 163), (133, .iload 9, 135, 0), (135, .ifCond .ne 7, 138, 142), (138, .iconst 2, 139, 0), (139, .goto 24, 142, 163), (142, .iload_n 3, 143, 0), (143, .ifCond .ne 19, 146, 162), (146, .aload_n 0, 147, 0), (147, .getfield 269, 150, 0), (150, .iconst 1, 151, 0), (151, .iconst 4, 152, 0), (152, .invokestatic 200, 155, 0), (155, .ifCond .ne 7, 158, 162), (158, .iconst 3, 159, 0), (159, .goto 4, 162, 163), (162, .iconst 0, 163, 0), (163, .putfield 196, 166, 0), (166, .aload_n 0, 167, 0), (167, .getfield 196, 170, 0), (170, .ifCond .le 5, 173, 175), (173, .iconst 0, 174, 0), (174, .ireturn, 175, 0), (175, .iconst 4, 176, 0), (176, .iload_n 1, 177, 0), (177, .imul, 178, 0), (178, .iload_n 2, 179, 0), (179, .iadd, 180, 0), (180, .istore 10, 182, 0), (182, .aload_n 0, 183, 0), (183, .getfield 58, 186, 0), (186, .iload 10, 188, 0), (188, .iload_n 3, 189, 0), (189, .iastore, 190, 0), (190, .aload_n 0, 191, 0), (191, .getfield 61, 194, 0), (194, .iload 10, 196, 0), (196, .iload_n 3, 197, 0), (197, .ifCond .ne 10, 200, 207), (200, .aload_n 0, 201, 0), (201, .getfield 269, 204, 0), (204, .goto 5, 207, 209), (207, .iload 4, 209, 0), (209, .iastore, 210, 0), (210, .aload_n 0, 211, 0), (211, .getfield 64, 214, 0), (214, .iload 10, 216, 0), (216, .iload 5, 218, 0), (218, .iastore, 219, 0), (219, .aload_n 0, 220, 0), (220, .getfield 67, 223, 0), (223, .iload 10, 225, 0), (225, .iload 6, 227, 0), (227, .iastore, 228, 0), (228, .iload_n 3, 229, 0), (229, .ifCond .ne 45, 232, 274), (232, .iconst 0, 233, 0), (233, .istore 11, 235, 0), (235, .iload 11, 237, 0), (237, .aload_n 0, 238, 0), (238, .getfield 269, 241, 0), (241, .if_icmp .ge 28, 244, 269), (244, .aload_n 0, 245, 0), (245, .getfield 70, 248, 0), (248, .iconst 4, 249, 0), (249, .iload 10, 251, 0), (251, .imul, 252, 0), (252, .iload 11, 254, 0), (254, .iadd, 255, 0), (255, .aload_n 0, 256, 0), (256, .getfield 7, 259, 0), (259, .iload 11, 261, 0), (261, .iaload, 262, 0), (262, .iastore, 263, 0), (263, .iinc 11 1, 266, 0), (266, .goto (-31), 269, 235), (269, .aload_n 0, 270, 0), (270, .iconst 0, 271, 0), (271, .putfield 269, 274, 0), (274, .iconst 0, 275, 0), (275, .istore 11, 277, 0), (277, .iconst 4, 278, 0), (278, .iload_n 1, 279, 0), (279, .imul, 280, 0), (280, .istore 12, 282, 0), (282, .iload 12, 284, 0), (284, .iconst 4, 285, 0), (285, .iload_n 1, 286, 0), (286, .imul, 287, 0), (287, .iconst 4, 288, 0), (288, .iadd, 289, 0), (289, .if_icmp .ge 30, 292, 319), (292, .iload 11, 294, 0), (294, .aload_n 0, 295, 0), (295, .getfield 58, 298, 0), (298, .iload 12, 300, 0), (300, .iaload, 301, 0), (301, .iconst (-1), 302, 0), (302, .if_icmp .eq 7, 305, 309), (305, .iconst 1, 306, 0), (306, .goto 4, 309, 310), (309, .iconst 0, 310, 0), (310, .iadd, 311, 0), (311, .istore 11, 313, 0), (313, .iinc 12 1, 316, 0), (316, .goto (-34), 319, 282), (319, .iload 11, 321, 0), (321, .ireturn, 322, 0)]
theorem T_X12_pin_ok : T_X12_pin.all (rowB cX12_pin) = true := by decide +kernel
def th_X12_pin : List (Nat × Nat) := []
def sw_X12_pin : List (Nat × (List (Int32 × Nat) × Nat)) := []
theorem sw_X12_pin_ok : ∀ q ∈ sw_X12_pin, swS cX12_pin q := fun _ h => absurd h List.not_mem_nil
def na_X12_pin : List (Nat × Nat) := [(600, 3), (861, 1)]
def ca_X12_pin {R' : Type} (F : Nat) : List (Nat × cFn R') := [(600, n_X12_isIn (f_X12_isIn F)), (861, n_X12_isTask (f_X12_isTask F))]
theorem ca_X12_pin_ok {R' : Type} {q : cL} (hst : q.1.stackTraces = false) {D : Nat} (hD : 2 ≤ D) (F : Nat) : ∀ x ∈ (ca_X12_pin (R' := R') F), 1 ≤ D ∧ ceS q RX12 (D - 1) x.1 x.2 := List.forall_mem_cons.mpr ⟨⟨by omega, n_X12_isIn_ok (k := 200) (lw_good_of (tb_ok 1341 (by decide +kernel)) rfl) (fun a0 a1 a2 M r h => c_X12_isIn hst (by omega) F a0 a1 a2 M r h)⟩, List.forall_mem_cons.mpr ⟨⟨by omega, n_X12_isTask_ok (k := 287) (lw_good_of (tb_ok 1435 (by decide +kernel)) rfl) (fun a0 M r h => c_X12_isTask hst (by omega) F a0 M r h)⟩, fun _ h => absurd h List.not_mem_nil⟩⟩
def kd_X12_pin_37 (g : Nat → Int32 → Int32 → Int32 → Int32 → Int32 → Int32 → Int32 → cM → Option (Int32 × cM)) : cKf (Int32 × cM) := fun vs st M => (lR vs 0).bind fun x0 => (lI vs 1).bind fun x1 => (lI vs 2).bind fun x2 => (lI vs 3).bind fun x3 => (lI vs 4).bind fun x4 => (lI vs 5).bind fun x5 => (lI vs 6).bind fun x6 => match st with
  | [.int s0] => g x0 x1 x2 x3 x4 x5 x6 s0 M
  | _ => none
theorem kf_X12_pin_37 {X : cCtx} {o : cO} {r : Int32 × cM} {g : Nat → Int32 → Int32 → Int32 → Int32 → Int32 → Int32 → Int32 → cM → Option (Int32 × cM)} (hg : ∀ x0 x1 x2 x3 x4 x5 x6 s0 M, g x0 x1 x2 x3 x4 x5 x6 s0 M = some r → WX X 13 o 37 [some (.ref x0), some (.int x1), some (.int x2), some (.int x3), some (.int x4), some (.int x5), some (.int x6), none, none, none, none, none, none] [.int s0] M) : ∀ vs st M, kd_X12_pin_37 g vs st M = some r → WX X 13 o 37 vs st M := by
  intro vs st M h
  unfold kd_X12_pin_37 at h
  obtain ⟨x0, h0, h⟩ := Option.bind_eq_some_iff.mp h
  obtain ⟨x1, h1, h⟩ := Option.bind_eq_some_iff.mp h
  obtain ⟨x2, h2, h⟩ := Option.bind_eq_some_iff.mp h
  obtain ⟨x3, h3, h⟩ := Option.bind_eq_some_iff.mp h
  obtain ⟨x4, h4, h⟩ := Option.bind_eq_some_iff.mp h
  obtain ⟨x5, h5, h⟩ := Option.bind_eq_some_iff.mp h
  obtain ⟨x6, h6, h⟩ := Option.bind_eq_some_iff.mp h
  split at h
  · exact WX_weak (hg _ _ _ _ _ _ _ _ _ h) rfl ⟨lR_of h0, lI_of h1, lI_of h2, lI_of h3, lI_of h4, lI_of h5, lI_of h6, trivial⟩
  · cases h
def kd_X12_pin_74 (g : Nat → Int32 → Int32 → Int32 → Int32 → Int32 → Int32 → Int32 → Int32 → cM → Option (Int32 × cM)) : cKf (Int32 × cM) := fun vs st M => (lR vs 0).bind fun x0 => (lI vs 1).bind fun x1 => (lI vs 2).bind fun x2 => (lI vs 3).bind fun x3 => (lI vs 4).bind fun x4 => (lI vs 5).bind fun x5 => (lI vs 6).bind fun x6 => (lI vs 7).bind fun x7 => match st with
  | [.int s0] => g x0 x1 x2 x3 x4 x5 x6 x7 s0 M
  | _ => none
theorem kf_X12_pin_74 {X : cCtx} {o : cO} {r : Int32 × cM} {g : Nat → Int32 → Int32 → Int32 → Int32 → Int32 → Int32 → Int32 → Int32 → cM → Option (Int32 × cM)} (hg : ∀ x0 x1 x2 x3 x4 x5 x6 x7 s0 M, g x0 x1 x2 x3 x4 x5 x6 x7 s0 M = some r → WX X 13 o 74 [some (.ref x0), some (.int x1), some (.int x2), some (.int x3), some (.int x4), some (.int x5), some (.int x6), some (.int x7), none, none, none, none, none] [.int s0] M) : ∀ vs st M, kd_X12_pin_74 g vs st M = some r → WX X 13 o 74 vs st M := by
  intro vs st M h
  unfold kd_X12_pin_74 at h
  obtain ⟨x0, h0, h⟩ := Option.bind_eq_some_iff.mp h
  obtain ⟨x1, h1, h⟩ := Option.bind_eq_some_iff.mp h
  obtain ⟨x2, h2, h⟩ := Option.bind_eq_some_iff.mp h
  obtain ⟨x3, h3, h⟩ := Option.bind_eq_some_iff.mp h
  obtain ⟨x4, h4, h⟩ := Option.bind_eq_some_iff.mp h
  obtain ⟨x5, h5, h⟩ := Option.bind_eq_some_iff.mp h
  obtain ⟨x6, h6, h⟩ := Option.bind_eq_some_iff.mp h
  obtain ⟨x7, h7, h⟩ := Option.bind_eq_some_iff.mp h
  split at h
  · exact WX_weak (hg _ _ _ _ _ _ _ _ _ _ h) rfl ⟨lR_of h0, lI_of h1, lI_of h2, lI_of h3, lI_of h4, lI_of h5, lI_of h6, lI_of h7, trivial⟩
  · cases h
def kd_X12_pin_95 (g : Nat → Int32 → Int32 → Int32 → Int32 → Int32 → Int32 → Int32 → cM → Option (Int32 × cM)) : cKf (Int32 × cM) := fun vs st M => (lR vs 0).bind fun x0 => (lI vs 1).bind fun x1 => (lI vs 2).bind fun x2 => (lI vs 3).bind fun x3 => (lI vs 4).bind fun x4 => (lI vs 5).bind fun x5 => (lI vs 6).bind fun x6 => (lI vs 8).bind fun x8 => match st with
  | [] => g x0 x1 x2 x3 x4 x5 x6 x8 M
  | _ => none
theorem kf_X12_pin_95 {X : cCtx} {o : cO} {r : Int32 × cM} {g : Nat → Int32 → Int32 → Int32 → Int32 → Int32 → Int32 → Int32 → cM → Option (Int32 × cM)} (hg : ∀ x0 x1 x2 x3 x4 x5 x6 x8 M, g x0 x1 x2 x3 x4 x5 x6 x8 M = some r → WX X 13 o 95 [some (.ref x0), some (.int x1), some (.int x2), some (.int x3), some (.int x4), some (.int x5), some (.int x6), none, some (.int x8), none, none, none, none] [] M) : ∀ vs st M, kd_X12_pin_95 g vs st M = some r → WX X 13 o 95 vs st M := by
  intro vs st M h
  unfold kd_X12_pin_95 at h
  obtain ⟨x0, h0, h⟩ := Option.bind_eq_some_iff.mp h
  obtain ⟨x1, h1, h⟩ := Option.bind_eq_some_iff.mp h
  obtain ⟨x2, h2, h⟩ := Option.bind_eq_some_iff.mp h
  obtain ⟨x3, h3, h⟩ := Option.bind_eq_some_iff.mp h
  obtain ⟨x4, h4, h⟩ := Option.bind_eq_some_iff.mp h
  obtain ⟨x5, h5, h⟩ := Option.bind_eq_some_iff.mp h
  obtain ⟨x6, h6, h⟩ := Option.bind_eq_some_iff.mp h
  obtain ⟨x8, h8, h⟩ := Option.bind_eq_some_iff.mp h
  split at h
  · exact WX_weak (hg _ _ _ _ _ _ _ _ _ h) rfl ⟨lR_of h0, lI_of h1, lI_of h2, lI_of h3, lI_of h4, lI_of h5, lI_of h6, lI_of h8, trivial⟩
  · cases h
def kd_X12_pin_110 (g : Nat → Int32 → Int32 → Int32 → Int32 → Int32 → Int32 → Int32 → cM → Option (Int32 × cM)) : cKf (Int32 × cM) := fun vs st M => (lR vs 0).bind fun x0 => (lI vs 1).bind fun x1 => (lI vs 2).bind fun x2 => (lI vs 3).bind fun x3 => (lI vs 4).bind fun x4 => (lI vs 5).bind fun x5 => (lI vs 6).bind fun x6 => match st with
  | [.int s0] => g x0 x1 x2 x3 x4 x5 x6 s0 M
  | _ => none
theorem kf_X12_pin_110 {X : cCtx} {o : cO} {r : Int32 × cM} {g : Nat → Int32 → Int32 → Int32 → Int32 → Int32 → Int32 → Int32 → cM → Option (Int32 × cM)} (hg : ∀ x0 x1 x2 x3 x4 x5 x6 s0 M, g x0 x1 x2 x3 x4 x5 x6 s0 M = some r → WX X 13 o 110 [some (.ref x0), some (.int x1), some (.int x2), some (.int x3), some (.int x4), some (.int x5), some (.int x6), none, none, none, none, none, none] [.int s0] M) : ∀ vs st M, kd_X12_pin_110 g vs st M = some r → WX X 13 o 110 vs st M := by
  intro vs st M h
  unfold kd_X12_pin_110 at h
  obtain ⟨x0, h0, h⟩ := Option.bind_eq_some_iff.mp h
  obtain ⟨x1, h1, h⟩ := Option.bind_eq_some_iff.mp h
  obtain ⟨x2, h2, h⟩ := Option.bind_eq_some_iff.mp h
  obtain ⟨x3, h3, h⟩ := Option.bind_eq_some_iff.mp h
  obtain ⟨x4, h4, h⟩ := Option.bind_eq_some_iff.mp h
  obtain ⟨x5, h5, h⟩ := Option.bind_eq_some_iff.mp h
  obtain ⟨x6, h6, h⟩ := Option.bind_eq_some_iff.mp h
  split at h
  · exact WX_weak (hg _ _ _ _ _ _ _ _ _ h) rfl ⟨lR_of h0, lI_of h1, lI_of h2, lI_of h3, lI_of h4, lI_of h5, lI_of h6, trivial⟩
  · cases h
def kd_X12_pin_163 (g : Nat → Int32 → Int32 → Int32 → Int32 → Int32 → Int32 → Nat → Int32 → cM → Option (Int32 × cM)) : cKf (Int32 × cM) := fun vs st M => (lR vs 0).bind fun x0 => (lI vs 1).bind fun x1 => (lI vs 2).bind fun x2 => (lI vs 3).bind fun x3 => (lI vs 4).bind fun x4 => (lI vs 5).bind fun x5 => (lI vs 6).bind fun x6 => match st with
  | [.int s1, .ref s0] => g x0 x1 x2 x3 x4 x5 x6 s0 s1 M
  | _ => none
theorem kf_X12_pin_163 {X : cCtx} {o : cO} {r : Int32 × cM} {g : Nat → Int32 → Int32 → Int32 → Int32 → Int32 → Int32 → Nat → Int32 → cM → Option (Int32 × cM)} (hg : ∀ x0 x1 x2 x3 x4 x5 x6 s0 s1 M, g x0 x1 x2 x3 x4 x5 x6 s0 s1 M = some r → WX X 13 o 163 [some (.ref x0), some (.int x1), some (.int x2), some (.int x3), some (.int x4), some (.int x5), some (.int x6), none, none, none, none, none, none] [.int s1, .ref s0] M) : ∀ vs st M, kd_X12_pin_163 g vs st M = some r → WX X 13 o 163 vs st M := by
  intro vs st M h
  unfold kd_X12_pin_163 at h
  obtain ⟨x0, h0, h⟩ := Option.bind_eq_some_iff.mp h
  obtain ⟨x1, h1, h⟩ := Option.bind_eq_some_iff.mp h
  obtain ⟨x2, h2, h⟩ := Option.bind_eq_some_iff.mp h
  obtain ⟨x3, h3, h⟩ := Option.bind_eq_some_iff.mp h
  obtain ⟨x4, h4, h⟩ := Option.bind_eq_some_iff.mp h
  obtain ⟨x5, h5, h⟩ := Option.bind_eq_some_iff.mp h
  obtain ⟨x6, h6, h⟩ := Option.bind_eq_some_iff.mp h
  split at h
  · exact WX_weak (hg _ _ _ _ _ _ _ _ _ _ h) rfl ⟨lR_of h0, lI_of h1, lI_of h2, lI_of h3, lI_of h4, lI_of h5, lI_of h6, trivial⟩
  · cases h
def kd_X12_pin_209 (g : Nat → Int32 → Int32 → Int32 → Int32 → Int32 → Nat → Int32 → Int32 → cM → Option (Int32 × cM)) : cKf (Int32 × cM) := fun vs st M => (lR vs 0).bind fun x0 => (lI vs 1).bind fun x1 => (lI vs 3).bind fun x3 => (lI vs 5).bind fun x5 => (lI vs 6).bind fun x6 => (lI vs 10).bind fun x10 => match st with
  | [.int s2, .int s1, .ref s0] => g x0 x1 x3 x5 x6 x10 s0 s1 s2 M
  | _ => none
theorem kf_X12_pin_209 {X : cCtx} {o : cO} {r : Int32 × cM} {g : Nat → Int32 → Int32 → Int32 → Int32 → Int32 → Nat → Int32 → Int32 → cM → Option (Int32 × cM)} (hg : ∀ x0 x1 x3 x5 x6 x10 s0 s1 s2 M, g x0 x1 x3 x5 x6 x10 s0 s1 s2 M = some r → WX X 13 o 209 [some (.ref x0), some (.int x1), none, some (.int x3), none, some (.int x5), some (.int x6), none, none, none, some (.int x10), none, none] [.int s2, .int s1, .ref s0] M) : ∀ vs st M, kd_X12_pin_209 g vs st M = some r → WX X 13 o 209 vs st M := by
  intro vs st M h
  unfold kd_X12_pin_209 at h
  obtain ⟨x0, h0, h⟩ := Option.bind_eq_some_iff.mp h
  obtain ⟨x1, h1, h⟩ := Option.bind_eq_some_iff.mp h
  obtain ⟨x3, h3, h⟩ := Option.bind_eq_some_iff.mp h
  obtain ⟨x5, h5, h⟩ := Option.bind_eq_some_iff.mp h
  obtain ⟨x6, h6, h⟩ := Option.bind_eq_some_iff.mp h
  obtain ⟨x10, h10, h⟩ := Option.bind_eq_some_iff.mp h
  split at h
  · exact WX_weak (hg _ _ _ _ _ _ _ _ _ _ h) rfl ⟨lR_of h0, lI_of h1, lI_of h3, lI_of h5, lI_of h6, lI_of h10, trivial⟩
  · cases h
def kd_X12_pin_235 (g : Nat → Int32 → Int32 → Int32 → cM → Option (Int32 × cM)) : cKf (Int32 × cM) := fun vs st M => (lR vs 0).bind fun x0 => (lI vs 1).bind fun x1 => (lI vs 10).bind fun x10 => (lI vs 11).bind fun x11 => match st with
  | [] => g x0 x1 x10 x11 M
  | _ => none
theorem kf_X12_pin_235 {X : cCtx} {o : cO} {r : Int32 × cM} {g : Nat → Int32 → Int32 → Int32 → cM → Option (Int32 × cM)} (hg : ∀ x0 x1 x10 x11 M, g x0 x1 x10 x11 M = some r → WX X 13 o 235 [some (.ref x0), some (.int x1), none, none, none, none, none, none, none, none, some (.int x10), some (.int x11), none] [] M) : ∀ vs st M, kd_X12_pin_235 g vs st M = some r → WX X 13 o 235 vs st M := by
  intro vs st M h
  unfold kd_X12_pin_235 at h
  obtain ⟨x0, h0, h⟩ := Option.bind_eq_some_iff.mp h
  obtain ⟨x1, h1, h⟩ := Option.bind_eq_some_iff.mp h
  obtain ⟨x10, h10, h⟩ := Option.bind_eq_some_iff.mp h
  obtain ⟨x11, h11, h⟩ := Option.bind_eq_some_iff.mp h
  split at h
  · exact WX_weak (hg _ _ _ _ _ h) rfl ⟨lR_of h0, lI_of h1, lI_of h10, lI_of h11, trivial⟩
  · cases h
def kd_X12_pin_282 (g : Nat → Int32 → Int32 → Int32 → cM → Option (Int32 × cM)) : cKf (Int32 × cM) := fun vs st M => (lR vs 0).bind fun x0 => (lI vs 1).bind fun x1 => (lI vs 11).bind fun x11 => (lI vs 12).bind fun x12 => match st with
  | [] => g x0 x1 x11 x12 M
  | _ => none
theorem kf_X12_pin_282 {X : cCtx} {o : cO} {r : Int32 × cM} {g : Nat → Int32 → Int32 → Int32 → cM → Option (Int32 × cM)} (hg : ∀ x0 x1 x11 x12 M, g x0 x1 x11 x12 M = some r → WX X 13 o 282 [some (.ref x0), some (.int x1), none, none, none, none, none, none, none, none, none, some (.int x11), some (.int x12)] [] M) : ∀ vs st M, kd_X12_pin_282 g vs st M = some r → WX X 13 o 282 vs st M := by
  intro vs st M h
  unfold kd_X12_pin_282 at h
  obtain ⟨x0, h0, h⟩ := Option.bind_eq_some_iff.mp h
  obtain ⟨x1, h1, h⟩ := Option.bind_eq_some_iff.mp h
  obtain ⟨x11, h11, h⟩ := Option.bind_eq_some_iff.mp h
  obtain ⟨x12, h12, h⟩ := Option.bind_eq_some_iff.mp h
  split at h
  · exact WX_weak (hg _ _ _ _ _ h) rfl ⟨lR_of h0, lI_of h1, lI_of h11, lI_of h12, trivial⟩
  · cases h
set_option maxRecDepth 20000 in
theorem e_X12_pin_282 (F : Nat) (t282 : Nat → Int32 → Int32 → Int32 → cM → Option (Int32 × cM)) (x0 : Nat) (x1 : Int32) (x11 : Int32) (x12 : Int32) (M : cM) : b_X12_pin_282 F t282 x0 x1 x11 x12 M = run T_X12_pin P_RX12 false 0 (naL na_X12_pin) (caL (ca_X12_pin F)) (lkN th_X12_pin) (lkN sw_X12_pin) krI kxN (spL [282]) (KL [(282, kd_X12_pin_282 t282)]) 177 282 [some (.ref x0), some (.int x1), none, none, none, none, none, none, none, none, none, some (.int x11), some (.int x12)] [] M := rfl
theorem ok_X12_pin_282 {X : cCtx} {D : Nat} {r : Int32 × cM} (G : FX X 13 (eI r) cX12_pin RX12 0 D) {F : Nat} (hca : ∀ x ∈ (ca_X12_pin (R' := Int32 × cM) F), 1 ≤ D ∧ ceS X.1 RX12 (D - 1) x.1 x.2) (n : Nat) : ∀ x0 x1 x11 x12 M, f_X12_pin_282 F n x0 x1 x11 x12 M = some r → WX X 13 (eI r) 282 [some (.ref x0), some (.int x1), none, none, none, none, none, none, none, none, none, some (.int x11), some (.int x12)] [] M := by
  induction n with
  | zero => intro x0 x1 x11 x12 M h; cases h
  | succ n ih =>
    intro x0 x1 x11 x12 M h
    exact seg_ok G P_RX12_ok T_X12_pin_ok hca (fun _ h => absurd h List.not_mem_nil) sw_X12_pin_ok krI_ok (kxN_ok (f := eI)) (List.forall_mem_cons.mpr ⟨kf_X12_pin_282 (ih), fun _ h => absurd h List.not_mem_nil⟩) ((e_X12_pin_282 F (f_X12_pin_282 F n) x0 x1 x11 x12 M).symm.trans h)
set_option maxRecDepth 20000 in
theorem e_X12_pin_235 (F : Nat) (t235 : Nat → Int32 → Int32 → Int32 → cM → Option (Int32 × cM)) (t282 : Nat → Int32 → Int32 → Int32 → cM → Option (Int32 × cM)) (x0 : Nat) (x1 : Int32) (x10 : Int32) (x11 : Int32) (M : cM) : b_X12_pin_235 F t235 t282 x0 x1 x10 x11 M = run T_X12_pin P_RX12 false 0 (naL na_X12_pin) (caL (ca_X12_pin F)) (lkN th_X12_pin) (lkN sw_X12_pin) krI kxN (spL [235, 282]) (KL [(235, kd_X12_pin_235 t235), (282, kd_X12_pin_282 t282)]) 177 235 [some (.ref x0), some (.int x1), none, none, none, none, none, none, none, none, some (.int x10), some (.int x11), none] [] M := rfl
theorem ok_X12_pin_235 {X : cCtx} {D : Nat} {r : Int32 × cM} (G : FX X 13 (eI r) cX12_pin RX12 0 D) {F : Nat} (hca : ∀ x ∈ (ca_X12_pin (R' := Int32 × cM) F), 1 ≤ D ∧ ceS X.1 RX12 (D - 1) x.1 x.2) (n : Nat) : ∀ x0 x1 x10 x11 M, f_X12_pin_235 F n x0 x1 x10 x11 M = some r → WX X 13 (eI r) 235 [some (.ref x0), some (.int x1), none, none, none, none, none, none, none, none, some (.int x10), some (.int x11), none] [] M := by
  induction n with
  | zero => intro x0 x1 x10 x11 M h; cases h
  | succ n ih =>
    intro x0 x1 x10 x11 M h
    exact seg_ok G P_RX12_ok T_X12_pin_ok hca (fun _ h => absurd h List.not_mem_nil) sw_X12_pin_ok krI_ok (kxN_ok (f := eI)) (List.forall_mem_cons.mpr ⟨kf_X12_pin_235 (ih), List.forall_mem_cons.mpr ⟨kf_X12_pin_282 (ok_X12_pin_282 G hca F), fun _ h => absurd h List.not_mem_nil⟩⟩) ((e_X12_pin_235 F (f_X12_pin_235 F n) (f_X12_pin_282 F F) x0 x1 x10 x11 M).symm.trans h)
set_option maxRecDepth 20000 in
theorem e_X12_pin_209 (F : Nat) (t235 : Nat → Int32 → Int32 → Int32 → cM → Option (Int32 × cM)) (t282 : Nat → Int32 → Int32 → Int32 → cM → Option (Int32 × cM)) (x0 : Nat) (x1 : Int32) (x3 : Int32) (x5 : Int32) (x6 : Int32) (x10 : Int32) (s0 : Nat) (s1 : Int32) (s2 : Int32) (M : cM) : b_X12_pin_209 F t235 t282 x0 x1 x3 x5 x6 x10 s0 s1 s2 M = run T_X12_pin P_RX12 false 0 (naL na_X12_pin) (caL (ca_X12_pin F)) (lkN th_X12_pin) (lkN sw_X12_pin) krI kxN (spL [235, 282]) (KL [(235, kd_X12_pin_235 t235), (282, kd_X12_pin_282 t282)]) 177 209 [some (.ref x0), some (.int x1), none, some (.int x3), none, some (.int x5), some (.int x6), none, none, none, some (.int x10), none, none] [.int s2, .int s1, .ref s0] M := rfl
theorem ok_X12_pin_209 {X : cCtx} {D : Nat} {r : Int32 × cM} (G : FX X 13 (eI r) cX12_pin RX12 0 D) {F : Nat} (hca : ∀ x ∈ (ca_X12_pin (R' := Int32 × cM) F), 1 ≤ D ∧ ceS X.1 RX12 (D - 1) x.1 x.2) : ∀ x0 x1 x3 x5 x6 x10 s0 s1 s2 M, f_X12_pin_209 F x0 x1 x3 x5 x6 x10 s0 s1 s2 M = some r → WX X 13 (eI r) 209 [some (.ref x0), some (.int x1), none, some (.int x3), none, some (.int x5), some (.int x6), none, none, none, some (.int x10), none, none] [.int s2, .int s1, .ref s0] M := by
  intro x0 x1 x3 x5 x6 x10 s0 s1 s2 M h
  exact seg_ok G P_RX12_ok T_X12_pin_ok hca (fun _ h => absurd h List.not_mem_nil) sw_X12_pin_ok krI_ok (kxN_ok (f := eI)) (List.forall_mem_cons.mpr ⟨kf_X12_pin_235 (ok_X12_pin_235 G hca F), List.forall_mem_cons.mpr ⟨kf_X12_pin_282 (ok_X12_pin_282 G hca F), fun _ h => absurd h List.not_mem_nil⟩⟩) ((e_X12_pin_209 F (f_X12_pin_235 F F) (f_X12_pin_282 F F) x0 x1 x3 x5 x6 x10 s0 s1 s2 M).symm.trans h)
set_option maxRecDepth 20000 in
theorem e_X12_pin_163 (F : Nat) (t209 : Nat → Int32 → Int32 → Int32 → Int32 → Int32 → Nat → Int32 → Int32 → cM → Option (Int32 × cM)) (x0 : Nat) (x1 : Int32) (x2 : Int32) (x3 : Int32) (x4 : Int32) (x5 : Int32) (x6 : Int32) (s0 : Nat) (s1 : Int32) (M : cM) : b_X12_pin_163 F t209 x0 x1 x2 x3 x4 x5 x6 s0 s1 M = run T_X12_pin P_RX12 false 0 (naL na_X12_pin) (caL (ca_X12_pin F)) (lkN th_X12_pin) (lkN sw_X12_pin) krI kxN (spL [209]) (KL [(209, kd_X12_pin_209 t209)]) 177 163 [some (.ref x0), some (.int x1), some (.int x2), some (.int x3), some (.int x4), some (.int x5), some (.int x6), none, none, none, none, none, none] [.int s1, .ref s0] M := rfl
theorem ok_X12_pin_163 {X : cCtx} {D : Nat} {r : Int32 × cM} (G : FX X 13 (eI r) cX12_pin RX12 0 D) {F : Nat} (hca : ∀ x ∈ (ca_X12_pin (R' := Int32 × cM) F), 1 ≤ D ∧ ceS X.1 RX12 (D - 1) x.1 x.2) : ∀ x0 x1 x2 x3 x4 x5 x6 s0 s1 M, f_X12_pin_163 F x0 x1 x2 x3 x4 x5 x6 s0 s1 M = some r → WX X 13 (eI r) 163 [some (.ref x0), some (.int x1), some (.int x2), some (.int x3), some (.int x4), some (.int x5), some (.int x6), none, none, none, none, none, none] [.int s1, .ref s0] M := by
  intro x0 x1 x2 x3 x4 x5 x6 s0 s1 M h
  exact seg_ok G P_RX12_ok T_X12_pin_ok hca (fun _ h => absurd h List.not_mem_nil) sw_X12_pin_ok krI_ok (kxN_ok (f := eI)) (List.forall_mem_cons.mpr ⟨kf_X12_pin_209 (ok_X12_pin_209 G hca), fun _ h => absurd h List.not_mem_nil⟩) ((e_X12_pin_163 F (f_X12_pin_209 F) x0 x1 x2 x3 x4 x5 x6 s0 s1 M).symm.trans h)
set_option maxRecDepth 20000 in
theorem e_X12_pin_110 (F : Nat) (t163 : Nat → Int32 → Int32 → Int32 → Int32 → Int32 → Int32 → Nat → Int32 → cM → Option (Int32 × cM)) (x0 : Nat) (x1 : Int32) (x2 : Int32) (x3 : Int32) (x4 : Int32) (x5 : Int32) (x6 : Int32) (s0 : Int32) (M : cM) : b_X12_pin_110 F t163 x0 x1 x2 x3 x4 x5 x6 s0 M = run T_X12_pin P_RX12 false 0 (naL na_X12_pin) (caL (ca_X12_pin F)) (lkN th_X12_pin) (lkN sw_X12_pin) krI kxN (spL [163]) (KL [(163, kd_X12_pin_163 t163)]) 177 110 [some (.ref x0), some (.int x1), some (.int x2), some (.int x3), some (.int x4), some (.int x5), some (.int x6), none, none, none, none, none, none] [.int s0] M := rfl
theorem ok_X12_pin_110 {X : cCtx} {D : Nat} {r : Int32 × cM} (G : FX X 13 (eI r) cX12_pin RX12 0 D) {F : Nat} (hca : ∀ x ∈ (ca_X12_pin (R' := Int32 × cM) F), 1 ≤ D ∧ ceS X.1 RX12 (D - 1) x.1 x.2) : ∀ x0 x1 x2 x3 x4 x5 x6 s0 M, f_X12_pin_110 F x0 x1 x2 x3 x4 x5 x6 s0 M = some r → WX X 13 (eI r) 110 [some (.ref x0), some (.int x1), some (.int x2), some (.int x3), some (.int x4), some (.int x5), some (.int x6), none, none, none, none, none, none] [.int s0] M := by
  intro x0 x1 x2 x3 x4 x5 x6 s0 M h
  exact seg_ok G P_RX12_ok T_X12_pin_ok hca (fun _ h => absurd h List.not_mem_nil) sw_X12_pin_ok krI_ok (kxN_ok (f := eI)) (List.forall_mem_cons.mpr ⟨kf_X12_pin_163 (ok_X12_pin_163 G hca), fun _ h => absurd h List.not_mem_nil⟩) ((e_X12_pin_110 F (f_X12_pin_163 F) x0 x1 x2 x3 x4 x5 x6 s0 M).symm.trans h)
set_option maxRecDepth 20000 in
theorem e_X12_pin_95 (F : Nat) (t110 : Nat → Int32 → Int32 → Int32 → Int32 → Int32 → Int32 → Int32 → cM → Option (Int32 × cM)) (x0 : Nat) (x1 : Int32) (x2 : Int32) (x3 : Int32) (x4 : Int32) (x5 : Int32) (x6 : Int32) (x8 : Int32) (M : cM) : b_X12_pin_95 F t110 x0 x1 x2 x3 x4 x5 x6 x8 M = run T_X12_pin P_RX12 false 0 (naL na_X12_pin) (caL (ca_X12_pin F)) (lkN th_X12_pin) (lkN sw_X12_pin) krI kxN (spL [110]) (KL [(110, kd_X12_pin_110 t110)]) 177 95 [some (.ref x0), some (.int x1), some (.int x2), some (.int x3), some (.int x4), some (.int x5), some (.int x6), none, some (.int x8), none, none, none, none] [] M := rfl
theorem ok_X12_pin_95 {X : cCtx} {D : Nat} {r : Int32 × cM} (G : FX X 13 (eI r) cX12_pin RX12 0 D) {F : Nat} (hca : ∀ x ∈ (ca_X12_pin (R' := Int32 × cM) F), 1 ≤ D ∧ ceS X.1 RX12 (D - 1) x.1 x.2) : ∀ x0 x1 x2 x3 x4 x5 x6 x8 M, f_X12_pin_95 F x0 x1 x2 x3 x4 x5 x6 x8 M = some r → WX X 13 (eI r) 95 [some (.ref x0), some (.int x1), some (.int x2), some (.int x3), some (.int x4), some (.int x5), some (.int x6), none, some (.int x8), none, none, none, none] [] M := by
  intro x0 x1 x2 x3 x4 x5 x6 x8 M h
  exact seg_ok G P_RX12_ok T_X12_pin_ok hca (fun _ h => absurd h List.not_mem_nil) sw_X12_pin_ok krI_ok (kxN_ok (f := eI)) (List.forall_mem_cons.mpr ⟨kf_X12_pin_110 (ok_X12_pin_110 G hca), fun _ h => absurd h List.not_mem_nil⟩) ((e_X12_pin_95 F (f_X12_pin_110 F) x0 x1 x2 x3 x4 x5 x6 x8 M).symm.trans h)
set_option maxRecDepth 20000 in
theorem e_X12_pin_74 (F : Nat) (t95 : Nat → Int32 → Int32 → Int32 → Int32 → Int32 → Int32 → Int32 → cM → Option (Int32 × cM)) (t110 : Nat → Int32 → Int32 → Int32 → Int32 → Int32 → Int32 → Int32 → cM → Option (Int32 × cM)) (x0 : Nat) (x1 : Int32) (x2 : Int32) (x3 : Int32) (x4 : Int32) (x5 : Int32) (x6 : Int32) (x7 : Int32) (s0 : Int32) (M : cM) : b_X12_pin_74 F t95 t110 x0 x1 x2 x3 x4 x5 x6 x7 s0 M = run T_X12_pin P_RX12 false 0 (naL na_X12_pin) (caL (ca_X12_pin F)) (lkN th_X12_pin) (lkN sw_X12_pin) krI kxN (spL [95, 110]) (KL [(95, kd_X12_pin_95 t95), (110, kd_X12_pin_110 t110)]) 177 74 [some (.ref x0), some (.int x1), some (.int x2), some (.int x3), some (.int x4), some (.int x5), some (.int x6), some (.int x7), none, none, none, none, none] [.int s0] M := rfl
theorem ok_X12_pin_74 {X : cCtx} {D : Nat} {r : Int32 × cM} (G : FX X 13 (eI r) cX12_pin RX12 0 D) {F : Nat} (hca : ∀ x ∈ (ca_X12_pin (R' := Int32 × cM) F), 1 ≤ D ∧ ceS X.1 RX12 (D - 1) x.1 x.2) : ∀ x0 x1 x2 x3 x4 x5 x6 x7 s0 M, f_X12_pin_74 F x0 x1 x2 x3 x4 x5 x6 x7 s0 M = some r → WX X 13 (eI r) 74 [some (.ref x0), some (.int x1), some (.int x2), some (.int x3), some (.int x4), some (.int x5), some (.int x6), some (.int x7), none, none, none, none, none] [.int s0] M := by
  intro x0 x1 x2 x3 x4 x5 x6 x7 s0 M h
  exact seg_ok G P_RX12_ok T_X12_pin_ok hca (fun _ h => absurd h List.not_mem_nil) sw_X12_pin_ok krI_ok (kxN_ok (f := eI)) (List.forall_mem_cons.mpr ⟨kf_X12_pin_95 (ok_X12_pin_95 G hca), List.forall_mem_cons.mpr ⟨kf_X12_pin_110 (ok_X12_pin_110 G hca), fun _ h => absurd h List.not_mem_nil⟩⟩) ((e_X12_pin_74 F (f_X12_pin_95 F) (f_X12_pin_110 F) x0 x1 x2 x3 x4 x5 x6 x7 s0 M).symm.trans h)
set_option maxRecDepth 20000 in
theorem e_X12_pin_37 (F : Nat) (t74 : Nat → Int32 → Int32 → Int32 → Int32 → Int32 → Int32 → Int32 → Int32 → cM → Option (Int32 × cM)) (x0 : Nat) (x1 : Int32) (x2 : Int32) (x3 : Int32) (x4 : Int32) (x5 : Int32) (x6 : Int32) (s0 : Int32) (M : cM) : b_X12_pin_37 F t74 x0 x1 x2 x3 x4 x5 x6 s0 M = run T_X12_pin P_RX12 false 0 (naL na_X12_pin) (caL (ca_X12_pin F)) (lkN th_X12_pin) (lkN sw_X12_pin) krI kxN (spL [74]) (KL [(74, kd_X12_pin_74 t74)]) 177 37 [some (.ref x0), some (.int x1), some (.int x2), some (.int x3), some (.int x4), some (.int x5), some (.int x6), none, none, none, none, none, none] [.int s0] M := rfl
theorem ok_X12_pin_37 {X : cCtx} {D : Nat} {r : Int32 × cM} (G : FX X 13 (eI r) cX12_pin RX12 0 D) {F : Nat} (hca : ∀ x ∈ (ca_X12_pin (R' := Int32 × cM) F), 1 ≤ D ∧ ceS X.1 RX12 (D - 1) x.1 x.2) : ∀ x0 x1 x2 x3 x4 x5 x6 s0 M, f_X12_pin_37 F x0 x1 x2 x3 x4 x5 x6 s0 M = some r → WX X 13 (eI r) 37 [some (.ref x0), some (.int x1), some (.int x2), some (.int x3), some (.int x4), some (.int x5), some (.int x6), none, none, none, none, none, none] [.int s0] M := by
  intro x0 x1 x2 x3 x4 x5 x6 s0 M h
  exact seg_ok G P_RX12_ok T_X12_pin_ok hca (fun _ h => absurd h List.not_mem_nil) sw_X12_pin_ok krI_ok (kxN_ok (f := eI)) (List.forall_mem_cons.mpr ⟨kf_X12_pin_74 (ok_X12_pin_74 G hca), fun _ h => absurd h List.not_mem_nil⟩) ((e_X12_pin_37 F (f_X12_pin_74 F) x0 x1 x2 x3 x4 x5 x6 s0 M).symm.trans h)
set_option maxRecDepth 20000 in
theorem e_X12_pin_0 (F : Nat) (t37 : Nat → Int32 → Int32 → Int32 → Int32 → Int32 → Int32 → Int32 → cM → Option (Int32 × cM)) (x0 : Nat) (x1 : Int32) (x2 : Int32) (x3 : Int32) (x4 : Int32) (x5 : Int32) (x6 : Int32) (M : cM) : b_X12_pin_0 F t37 x0 x1 x2 x3 x4 x5 x6 M = run T_X12_pin P_RX12 false 0 (naL na_X12_pin) (caL (ca_X12_pin F)) (lkN th_X12_pin) (lkN sw_X12_pin) krI kxN (spL [37]) (KL [(37, kd_X12_pin_37 t37)]) 177 0 [some (.ref x0), some (.int x1), some (.int x2), some (.int x3), some (.int x4), some (.int x5), some (.int x6), none, none, none, none, none, none] [] M := rfl
theorem ok_X12_pin_0 {X : cCtx} {D : Nat} {r : Int32 × cM} (G : FX X 13 (eI r) cX12_pin RX12 0 D) {F : Nat} (hca : ∀ x ∈ (ca_X12_pin (R' := Int32 × cM) F), 1 ≤ D ∧ ceS X.1 RX12 (D - 1) x.1 x.2) : ∀ x0 x1 x2 x3 x4 x5 x6 M, f_X12_pin_0 F x0 x1 x2 x3 x4 x5 x6 M = some r → WX X 13 (eI r) 0 [some (.ref x0), some (.int x1), some (.int x2), some (.int x3), some (.int x4), some (.int x5), some (.int x6), none, none, none, none, none, none] [] M := by
  intro x0 x1 x2 x3 x4 x5 x6 M h
  exact seg_ok G P_RX12_ok T_X12_pin_ok hca (fun _ h => absurd h List.not_mem_nil) sw_X12_pin_ok krI_ok (kxN_ok (f := eI)) (List.forall_mem_cons.mpr ⟨kf_X12_pin_37 (ok_X12_pin_37 G hca), fun _ h => absurd h List.not_mem_nil⟩) ((e_X12_pin_0 F (f_X12_pin_37 F) x0 x1 x2 x3 x4 x5 x6 M).symm.trans h)
theorem c_X12_pin {q : cL} (hst : q.1.stackTraces = false) {D : Nat} (hD : 2 ≤ D) (F : Nat) (a0 : Nat) (a1 : Int32) (a2 : Int32) (a3 : Int32) (a4 : Int32) (a5 : Int32) (a6 : Int32) (M : cM) (r : Int32 × cM) (h : f_X12_pin F a0 a1 a2 a3 a4 a5 a6 M = some r) : CTx q yX12_pin (.code yX12_pin cX12_pin 13 (some .int)) D [.ref a0, .int a1, .int a2, .int a3, .int a4, .int a5, .int a6] M (eI r) ∧ ∃ fs, M[a0]? = some (.inr (10, fs)) := by
  unfold f_X12_pin at h
  split at h
  · next hi => exact ⟨CTx_of (own := RX12) (rk := 0) hst (by decide +kernel) rfl (rfl) (Nat.le_of_ble_eq_true rfl) (fun X hX G => by subst hX; exact ok_X12_pin_0 G (ca_X12_pin_ok hst hD F) a0 a1 a2 a3 a4 a5 a6 M h), isC_of hi⟩
  · cases h
-- PatchbayScriptModel.compares([IIII)I
def T_X12_compares : List cRow := [(0, .iload_n 3, 1, 0), (1, .aload_n 0, 2, 0), (2, .getfield 131, 5, 0), (5, .iload 4, 7, 0), (7, .iaload, 8, 0), (8, .isub, 9, 0), (9, .istore 5, 11, 0), (11, .iconst 0, 12, 0), (12, .istore 6, 14, 0), (14, .iload 6, 16, 0), (16, .iload_n 3, 17, 0), (17, .if_icmp .ge 35, 20, 52), (20, .iload 5, 22, 0), (22, .ifCond .ne 30, 25, 52), (25, .aload_n 1, 26, 0), (26, .iload_n 2, 27, 0), (27, .iload 6, 29, 0), (29, .iadd, 30, 0), (30, .iaload, 31, 0), (31, .aload_n 0, 32, 0), (32, .getfield 128, 35, 0), (35, .iconst 4, 36, 0), (36, .iload 4, 38, 0), (38, .imul, 39, 0), (39, .iload 6, 41, 0), (41, .iadd, 42, 0), (42, .iaload, 43, 0), (43, .isub, 44, 0), (44, .istore 5, 46, 0), (46, .iinc 6 1, 49, 0), (49, .goto (-35), 52, 14), (52, .iload 5, 54, 0), (54, .ifCond .ge 7, 57, 61), (57, .iconst (-1), 58, 0), (58, .goto 13, 61, 71), (61, .iload 5, 63, 0), (63, .ifCond .le 7, 66, 70), (66, .iconst 1, 67, 0), (67, .goto 4, 70, 71), (70, .iconst 0, 71, 0), (71, .ireturn, 72, 0)]
theorem T_X12_compares_ok : T_X12_compares.all (rowB cX12_compares) = true := by decide +kernel
def th_X12_compares : List (Nat × Nat) := []
def sw_X12_compares : List (Nat × (List (Int32 × Nat) × Nat)) := []
theorem sw_X12_compares_ok : ∀ q ∈ sw_X12_compares, swS cX12_compares q := fun _ h => absurd h List.not_mem_nil
def na_X12_compares : List (Nat × Nat) := []
def ca_X12_compares {R' : Type} (F : Nat) : List (Nat × cFn R') := []
theorem ca_X12_compares_ok {R' : Type} {q : cL} (hst : q.1.stackTraces = false) {D : Nat} (hD : 0 ≤ D) (F : Nat) : ∀ x ∈ (ca_X12_compares (R' := R') F), 1 ≤ D ∧ ceS q RX12 (D - 1) x.1 x.2 := fun _ h => absurd h List.not_mem_nil
def kd_X12_compares_14 (g : Nat → Nat → Int32 → Int32 → Int32 → Int32 → Int32 → cM → Option (Int32 × cM)) : cKf (Int32 × cM) := fun vs st M => (lR vs 0).bind fun x0 => (lR vs 1).bind fun x1 => (lI vs 2).bind fun x2 => (lI vs 3).bind fun x3 => (lI vs 4).bind fun x4 => (lI vs 5).bind fun x5 => (lI vs 6).bind fun x6 => match st with
  | [] => g x0 x1 x2 x3 x4 x5 x6 M
  | _ => none
theorem kf_X12_compares_14 {X : cCtx} {o : cO} {r : Int32 × cM} {g : Nat → Nat → Int32 → Int32 → Int32 → Int32 → Int32 → cM → Option (Int32 × cM)} (hg : ∀ x0 x1 x2 x3 x4 x5 x6 M, g x0 x1 x2 x3 x4 x5 x6 M = some r → WX X 7 o 14 [some (.ref x0), some (.ref x1), some (.int x2), some (.int x3), some (.int x4), some (.int x5), some (.int x6)] [] M) : ∀ vs st M, kd_X12_compares_14 g vs st M = some r → WX X 7 o 14 vs st M := by
  intro vs st M h
  unfold kd_X12_compares_14 at h
  obtain ⟨x0, h0, h⟩ := Option.bind_eq_some_iff.mp h
  obtain ⟨x1, h1, h⟩ := Option.bind_eq_some_iff.mp h
  obtain ⟨x2, h2, h⟩ := Option.bind_eq_some_iff.mp h
  obtain ⟨x3, h3, h⟩ := Option.bind_eq_some_iff.mp h
  obtain ⟨x4, h4, h⟩ := Option.bind_eq_some_iff.mp h
  obtain ⟨x5, h5, h⟩ := Option.bind_eq_some_iff.mp h
  obtain ⟨x6, h6, h⟩ := Option.bind_eq_some_iff.mp h
  split at h
  · exact WX_weak (hg _ _ _ _ _ _ _ _ h) rfl ⟨lR_of h0, lR_of h1, lI_of h2, lI_of h3, lI_of h4, lI_of h5, lI_of h6, trivial⟩
  · cases h
def kd_X12_compares_52 (g : Int32 → cM → Option (Int32 × cM)) : cKf (Int32 × cM) := fun vs st M => (lI vs 5).bind fun x5 => match st with
  | [] => g x5 M
  | _ => none
theorem kf_X12_compares_52 {X : cCtx} {o : cO} {r : Int32 × cM} {g : Int32 → cM → Option (Int32 × cM)} (hg : ∀ x5 M, g x5 M = some r → WX X 7 o 52 [none, none, none, none, none, some (.int x5), none] [] M) : ∀ vs st M, kd_X12_compares_52 g vs st M = some r → WX X 7 o 52 vs st M := by
  intro vs st M h
  unfold kd_X12_compares_52 at h
  obtain ⟨x5, h5, h⟩ := Option.bind_eq_some_iff.mp h
  split at h
  · exact WX_weak (hg _ _ h) rfl ⟨lI_of h5, trivial⟩
  · cases h
set_option maxRecDepth 20000 in
theorem e_X12_compares_52 (F : Nat) (x5 : Int32) (M : cM) : b_X12_compares_52 F x5 M = run T_X12_compares P_RX12 false 0 (naL na_X12_compares) (caL (ca_X12_compares F)) (lkN th_X12_compares) (lkN sw_X12_compares) krI kxN (spL []) (KL []) 44 52 [none, none, none, none, none, some (.int x5), none] [] M := rfl
theorem ok_X12_compares_52 {X : cCtx} {D : Nat} {r : Int32 × cM} (G : FX X 7 (eI r) cX12_compares RX12 0 D) {F : Nat} (hca : ∀ x ∈ (ca_X12_compares (R' := Int32 × cM) F), 1 ≤ D ∧ ceS X.1 RX12 (D - 1) x.1 x.2) : ∀ x5 M, f_X12_compares_52 F x5 M = some r → WX X 7 (eI r) 52 [none, none, none, none, none, some (.int x5), none] [] M := by
  intro x5 M h
  exact seg_ok G P_RX12_ok T_X12_compares_ok hca (fun _ h => absurd h List.not_mem_nil) sw_X12_compares_ok krI_ok (kxN_ok (f := eI)) (fun _ h => absurd h List.not_mem_nil) ((e_X12_compares_52 F x5 M).symm.trans h)
set_option maxRecDepth 20000 in
theorem e_X12_compares_14 (F : Nat) (t14 : Nat → Nat → Int32 → Int32 → Int32 → Int32 → Int32 → cM → Option (Int32 × cM)) (t52 : Int32 → cM → Option (Int32 × cM)) (x0 : Nat) (x1 : Nat) (x2 : Int32) (x3 : Int32) (x4 : Int32) (x5 : Int32) (x6 : Int32) (M : cM) : b_X12_compares_14 F t14 t52 x0 x1 x2 x3 x4 x5 x6 M = run T_X12_compares P_RX12 false 0 (naL na_X12_compares) (caL (ca_X12_compares F)) (lkN th_X12_compares) (lkN sw_X12_compares) krI kxN (spL [14, 52]) (KL [(14, kd_X12_compares_14 t14), (52, kd_X12_compares_52 t52)]) 44 14 [some (.ref x0), some (.ref x1), some (.int x2), some (.int x3), some (.int x4), some (.int x5), some (.int x6)] [] M := rfl
theorem ok_X12_compares_14 {X : cCtx} {D : Nat} {r : Int32 × cM} (G : FX X 7 (eI r) cX12_compares RX12 0 D) {F : Nat} (hca : ∀ x ∈ (ca_X12_compares (R' := Int32 × cM) F), 1 ≤ D ∧ ceS X.1 RX12 (D - 1) x.1 x.2) (n : Nat) : ∀ x0 x1 x2 x3 x4 x5 x6 M, f_X12_compares_14 F n x0 x1 x2 x3 x4 x5 x6 M = some r → WX X 7 (eI r) 14 [some (.ref x0), some (.ref x1), some (.int x2), some (.int x3), some (.int x4), some (.int x5), some (.int x6)] [] M := by
  induction n with
  | zero => intro x0 x1 x2 x3 x4 x5 x6 M h; cases h
  | succ n ih =>
    intro x0 x1 x2 x3 x4 x5 x6 M h
    exact seg_ok G P_RX12_ok T_X12_compares_ok hca (fun _ h => absurd h List.not_mem_nil) sw_X12_compares_ok krI_ok (kxN_ok (f := eI)) (List.forall_mem_cons.mpr ⟨kf_X12_compares_14 (ih), List.forall_mem_cons.mpr ⟨kf_X12_compares_52 (ok_X12_compares_52 G hca), fun _ h => absurd h List.not_mem_nil⟩⟩) ((e_X12_compares_14 F (f_X12_compares_14 F n) (f_X12_compares_52 F) x0 x1 x2 x3 x4 x5 x6 M).symm.trans h)
set_option maxRecDepth 20000 in
theorem e_X12_compares_0 (F : Nat) (t14 : Nat → Nat → Int32 → Int32 → Int32 → Int32 → Int32 → cM → Option (Int32 × cM)) (x0 : Nat) (x1 : Nat) (x2 : Int32) (x3 : Int32) (x4 : Int32) (M : cM) : b_X12_compares_0 F t14 x0 x1 x2 x3 x4 M = run T_X12_compares P_RX12 false 0 (naL na_X12_compares) (caL (ca_X12_compares F)) (lkN th_X12_compares) (lkN sw_X12_compares) krI kxN (spL [14]) (KL [(14, kd_X12_compares_14 t14)]) 44 0 [some (.ref x0), some (.ref x1), some (.int x2), some (.int x3), some (.int x4), none, none] [] M := rfl
theorem ok_X12_compares_0 {X : cCtx} {D : Nat} {r : Int32 × cM} (G : FX X 7 (eI r) cX12_compares RX12 0 D) {F : Nat} (hca : ∀ x ∈ (ca_X12_compares (R' := Int32 × cM) F), 1 ≤ D ∧ ceS X.1 RX12 (D - 1) x.1 x.2) : ∀ x0 x1 x2 x3 x4 M, f_X12_compares_0 F x0 x1 x2 x3 x4 M = some r → WX X 7 (eI r) 0 [some (.ref x0), some (.ref x1), some (.int x2), some (.int x3), some (.int x4), none, none] [] M := by
  intro x0 x1 x2 x3 x4 M h
  exact seg_ok G P_RX12_ok T_X12_compares_ok hca (fun _ h => absurd h List.not_mem_nil) sw_X12_compares_ok krI_ok (kxN_ok (f := eI)) (List.forall_mem_cons.mpr ⟨kf_X12_compares_14 (ok_X12_compares_14 G hca F), fun _ h => absurd h List.not_mem_nil⟩) ((e_X12_compares_0 F (f_X12_compares_14 F F) x0 x1 x2 x3 x4 M).symm.trans h)
theorem c_X12_compares {q : cL} (hst : q.1.stackTraces = false) {D : Nat} (hD : 0 ≤ D) (F : Nat) (a0 : Nat) (a1 : Nat) (a2 : Int32) (a3 : Int32) (a4 : Int32) (M : cM) (r : Int32 × cM) (h : f_X12_compares F a0 a1 a2 a3 a4 M = some r) : CTx q yX12_compares (.code yX12_compares cX12_compares 7 (some .int)) D [.ref a0, .ref a1, .int a2, .int a3, .int a4] M (eI r) ∧ ∃ fs, M[a0]? = some (.inr (10, fs)) := by
  unfold f_X12_compares at h
  split at h
  · next hi => exact ⟨CTx_of (own := RX12) (rk := 0) hst (by decide +kernel) rfl (rfl) (Nat.le_of_ble_eq_true rfl) (fun X hX G => by subst hX; exact ok_X12_compares_0 G (ca_X12_compares_ok hst hD F) a0 a1 a2 a3 a4 M h), isC_of hi⟩
  · cases h
def n_X12_compares {R' : Type} (f : Nat → Nat → Int32 → Int32 → Int32 → cM → Option (Int32 × cM)) : cFn R' := fun as M κ κx => match as with
  | [.ref a0, .ref a1, .int a2, .int a3, .int a4] => (f a0 a1 a2 a3 a4 M).bind fun p => κ (some (.int p.1)) p.2
  | _ => none
theorem w_X12_compares : ∀ w ∈ [Cond.instanceMethod yX12_compares, .selects yX12_compares.cls yX12_compares yX12_compares, .initialized yX12_compares.cls, .code yX12_compares cX12_compares 7 (some .int)], w ∈ lw_good := List.forall_mem_cons.mpr ⟨lw_good_of (tb_ok 1468 (by decide +kernel)) rfl, List.forall_mem_cons.mpr ⟨lw_good_of (ts_ok 48 (by decide +kernel)) rfl, List.forall_mem_cons.mpr ⟨lw_good_of (tb_ok 11 (by decide +kernel)) rfl, List.forall_mem_cons.mpr ⟨lw_good_of (tb_ok 1469 (by decide +kernel)) rfl, fun _ h => absurd h List.not_mem_nil⟩⟩⟩⟩
theorem n_X12_compares_ok {R' : Type} {q : cL} {own : String} {d k : Nat} {f : Nat → Nat → Int32 → Int32 → Int32 → cM → Option (Int32 × cM)} (hl : Cond.methodLink own k yX12_compares ∈ lw_good) (hf : ∀ a0 a1 a2 a3 a4 M r, f a0 a1 a2 a3 a4 M = some r → CTx q yX12_compares (.code yX12_compares cX12_compares 7 (some .int)) d [.ref a0, .ref a1, .int a2, .int a3, .int a4] M (eI r) ∧ ∃ fs, M[a0]? = some (.inr (10, fs))) : ceS q own d (3 * k + 1) (n_X12_compares (R' := R') f) := by
  intro as M κ κx r h
  unfold n_X12_compares at h
  split at h
  · obtain ⟨p, h1, h2⟩ := Option.bind_eq_some_iff.mp h
    obtain ⟨hc, fs, ha⟩ := hf _ _ _ _ _ _ _ h1
    exact ⟨eI p, fun _ => h2, fun hne => absurd rfl hne, Or.inr (Or.inl ⟨yX12_compares, cX12_compares, 7, (some .int), k, 4, _, _, 10, TX12, 76, fs, rfl, rfl, hc, ha, rfl, List.forall_mem_cons.mpr ⟨hl, w_X12_compares⟩, ⟨rfl, by decide +kernel, by decide +kernel, by decide +kernel⟩, rfl, by decide⟩)⟩
  · cases h
-- PatchbayScriptModel.addsConst([III)V
def T_X12_addsConst : List cRow := [(0, .iconst 0, 1, 0), (1, .istore 4, 3, 0), (3, .iload 4, 5, 0), (5, .aload_n 0, 6, 0), (6, .getfield 296, 9, 0), (9, .if_icmp .ge 21, 12, 30), (12, .aload_n 0, 13, 0), (13, .aload_n 1, 14, 0), (14, .iload_n 2, 15, 0), (15, .iload_n 3, 16, 0), (16, .iload 4, 18, 0), (18, .invokevirtual 299, 21, 0), (21, .ifCond .le 9, 24, 30), (24, .iinc 4 1, 27, 0), (27, .goto (-24), 30, 3), (30, .iload 4, 32, 0), (32, .aload_n 0, 33, 0), (33, .getfield 296, 36, 0), (36, .if_icmp .ge 16, 39, 52), (39, .aload_n 0, 40, 0), (40, .aload_n 1, 41, 0), (41, .iload_n 2, 42, 0), (42, .iload_n 3, 43, 0), (43, .iload 4, 45, 0), (45, .invokevirtual 299, 48, 0), (48, .ifCond .ne 4, 51, 52), (51, .return_, 52, 0), (52, .aload_n 0, 53, 0), (53, .getfield 296, 56, 0), (56, .istore 5, 58, 0), (58, .iload 5, 60, 0), (60, .iload 4, 62, 0), (62, .if_icmp .le 66, 65, 128), (65, .aload_n 0, 66, 0), (66, .getfield 131, 69, 0), (69, .iload 5, 71, 0), (71, .aload_n 0, 72, 0), (72, .getfield 131, 75, 0), (75, .iload 5, 77, 0), (77, .iconst 1, 78, 0), (78, .isub, 79, 0), (79, .iaload, 80, 0), (80, .iastore, 81, 0), (81, .iconst 0, 82, 0), (82, .istore 6, 84, 0), (84, .iload 6, 86, 0), (86, .iconst 4, 87, 0), (87, .if_icmp .ge 35, 90, 122), (90, .aload_n 0, 91, 0), (91, .getfield 128, 94, 0), (94, .iconst 4, 95, 0), (95, .iload 5, 97, 0), (97, .imul, 98, 0), (98, .iload 6, 100, 0), (100, .iadd, 101, 0), (101, .aload_n 0, 102, 0), (102, .getfield 128, 105, 0), (105, .iconst 4, 106, 0), (106, .iload 5, 108, 0), (108, .imul, 109, 0), (109, .iconst 4, 110, 0), (110, .isub, 111, 0), (111, .iload 6, 113, 0), (113, .iadd, 114, 0), (114, .iaload, 115, 0), (115, .iastore, 116, 0), (116, .iinc 6 1, 119, 0), (119, .goto (-35), 122, 84), (122, .iinc 5 (-1), 125, 0), (125, .goto (-67), 128, 58), (128, .aload_n 0, 129, 0), (129, .getfield 131, 132, 0), (132, .iload 4, 134, 0), (134, .iload_n 3, 135, 0), (135, .iastore, 136, 0), (136, .iconst 0, 137, 0), (137, .istore 5, 139, 0), (139, .iload 5, 141, 0), (141, .iload_n 3, 142, 0), (142, .if_icmp .ge 27, 145, 169), (145, .aload_n 0, 146, 0), (146, .getfield 128, 149, 0), (149, .iconst 4, 150, 0), (150, .iload 4, 152, 0), (152, .imul, 153, 0), (153, .iload 5, 155, 0), (155, .iadd, 156, 0), (156, .aload_n 1, 157, 0), (157, .iload_n 2, 158, 0), (158, .iload 5, 160, 0), (160, .iadd, 161, 0), (161, .iaload, 162, 0), (162, .iastore, 163, 0), (163, .iinc 5 1, 166, 0), (166, .goto (-27), 169, 139), (169, .aload_n 0, 170, 0), (170, .dup, 171, 0), (171, .getfield 296, 174, 0), (174, .iconst 1, 175, 0), (175, .iadd, 176, 0), (176, .putfield 296, 179, 0), (179, .return_, 180, 0)]
theorem T_X12_addsConst_ok : T_X12_addsConst.all (rowB cX12_addsConst) = true := by decide +kernel
def th_X12_addsConst : List (Nat × Nat) := []
def sw_X12_addsConst : List (Nat × (List (Int32 × Nat) × Nat)) := []
theorem sw_X12_addsConst_ok : ∀ q ∈ sw_X12_addsConst, swS cX12_addsConst q := fun _ h => absurd h List.not_mem_nil
def na_X12_addsConst : List (Nat × Nat) := [(898, 5)]
def ca_X12_addsConst {R' : Type} (F : Nat) : List (Nat × cFn R') := [(898, n_X12_compares (f_X12_compares F))]
theorem ca_X12_addsConst_ok {R' : Type} {q : cL} (hst : q.1.stackTraces = false) {D : Nat} (hD : 1 ≤ D) (F : Nat) : ∀ x ∈ (ca_X12_addsConst (R' := R') F), 1 ≤ D ∧ ceS q RX12 (D - 1) x.1 x.2 := List.forall_mem_cons.mpr ⟨⟨by omega, n_X12_compares_ok (k := 299) (lw_good_of (tb_ok 1466 (by decide +kernel)) rfl) (fun a0 a1 a2 a3 a4 M r h => c_X12_compares hst (by omega) F a0 a1 a2 a3 a4 M r h)⟩, fun _ h => absurd h List.not_mem_nil⟩
def kd_X12_addsConst_3 (g : Nat → Nat → Int32 → Int32 → Int32 → cM → Option (cM)) : cKf (cM) := fun vs st M => (lR vs 0).bind fun x0 => (lR vs 1).bind fun x1 => (lI vs 2).bind fun x2 => (lI vs 3).bind fun x3 => (lI vs 4).bind fun x4 => match st with
  | [] => g x0 x1 x2 x3 x4 M
  | _ => none
theorem kf_X12_addsConst_3 {X : cCtx} {o : cO} {r : cM} {g : Nat → Nat → Int32 → Int32 → Int32 → cM → Option (cM)} (hg : ∀ x0 x1 x2 x3 x4 M, g x0 x1 x2 x3 x4 M = some r → WX X 7 o 3 [some (.ref x0), some (.ref x1), some (.int x2), some (.int x3), some (.int x4), none, none] [] M) : ∀ vs st M, kd_X12_addsConst_3 g vs st M = some r → WX X 7 o 3 vs st M := by
  intro vs st M h
  unfold kd_X12_addsConst_3 at h
  obtain ⟨x0, h0, h⟩ := Option.bind_eq_some_iff.mp h
  obtain ⟨x1, h1, h⟩ := Option.bind_eq_some_iff.mp h
  obtain ⟨x2, h2, h⟩ := Option.bind_eq_some_iff.mp h
  obtain ⟨x3, h3, h⟩ := Option.bind_eq_some_iff.mp h
  obtain ⟨x4, h4, h⟩ := Option.bind_eq_some_iff.mp h
  split at h
  · exact WX_weak (hg _ _ _ _ _ _ h) rfl ⟨lR_of h0, lR_of h1, lI_of h2, lI_of h3, lI_of h4, trivial⟩
  · cases h
def kd_X12_addsConst_30 (g : Nat → Nat → Int32 → Int32 → Int32 → cM → Option (cM)) : cKf (cM) := fun vs st M => (lR vs 0).bind fun x0 => (lR vs 1).bind fun x1 => (lI vs 2).bind fun x2 => (lI vs 3).bind fun x3 => (lI vs 4).bind fun x4 => match st with
  | [] => g x0 x1 x2 x3 x4 M
  | _ => none
theorem kf_X12_addsConst_30 {X : cCtx} {o : cO} {r : cM} {g : Nat → Nat → Int32 → Int32 → Int32 → cM → Option (cM)} (hg : ∀ x0 x1 x2 x3 x4 M, g x0 x1 x2 x3 x4 M = some r → WX X 7 o 30 [some (.ref x0), some (.ref x1), some (.int x2), some (.int x3), some (.int x4), none, none] [] M) : ∀ vs st M, kd_X12_addsConst_30 g vs st M = some r → WX X 7 o 30 vs st M := by
  intro vs st M h
  unfold kd_X12_addsConst_30 at h
  obtain ⟨x0, h0, h⟩ := Option.bind_eq_some_iff.mp h
  obtain ⟨x1, h1, h⟩ := Option.bind_eq_some_iff.mp h
  obtain ⟨x2, h2, h⟩ := Option.bind_eq_some_iff.mp h
  obtain ⟨x3, h3, h⟩ := Option.bind_eq_some_iff.mp h
  obtain ⟨x4, h4, h⟩ := Option.bind_eq_some_iff.mp h
  split at h
  · exact WX_weak (hg _ _ _ _ _ _ h) rfl ⟨lR_of h0, lR_of h1, lI_of h2, lI_of h3, lI_of h4, trivial⟩
  · cases h
def kd_X12_addsConst_58 (g : Nat → Nat → Int32 → Int32 → Int32 → Int32 → cM → Option (cM)) : cKf (cM) := fun vs st M => (lR vs 0).bind fun x0 => (lR vs 1).bind fun x1 => (lI vs 2).bind fun x2 => (lI vs 3).bind fun x3 => (lI vs 4).bind fun x4 => (lI vs 5).bind fun x5 => match st with
  | [] => g x0 x1 x2 x3 x4 x5 M
  | _ => none
theorem kf_X12_addsConst_58 {X : cCtx} {o : cO} {r : cM} {g : Nat → Nat → Int32 → Int32 → Int32 → Int32 → cM → Option (cM)} (hg : ∀ x0 x1 x2 x3 x4 x5 M, g x0 x1 x2 x3 x4 x5 M = some r → WX X 7 o 58 [some (.ref x0), some (.ref x1), some (.int x2), some (.int x3), some (.int x4), some (.int x5), none] [] M) : ∀ vs st M, kd_X12_addsConst_58 g vs st M = some r → WX X 7 o 58 vs st M := by
  intro vs st M h
  unfold kd_X12_addsConst_58 at h
  obtain ⟨x0, h0, h⟩ := Option.bind_eq_some_iff.mp h
  obtain ⟨x1, h1, h⟩ := Option.bind_eq_some_iff.mp h
  obtain ⟨x2, h2, h⟩ := Option.bind_eq_some_iff.mp h
  obtain ⟨x3, h3, h⟩ := Option.bind_eq_some_iff.mp h
  obtain ⟨x4, h4, h⟩ := Option.bind_eq_some_iff.mp h
  obtain ⟨x5, h5, h⟩ := Option.bind_eq_some_iff.mp h
  split at h
  · exact WX_weak (hg _ _ _ _ _ _ _ h) rfl ⟨lR_of h0, lR_of h1, lI_of h2, lI_of h3, lI_of h4, lI_of h5, trivial⟩
  · cases h
def kd_X12_addsConst_84 (g : Nat → Nat → Int32 → Int32 → Int32 → Int32 → Int32 → cM → Option (cM)) : cKf (cM) := fun vs st M => (lR vs 0).bind fun x0 => (lR vs 1).bind fun x1 => (lI vs 2).bind fun x2 => (lI vs 3).bind fun x3 => (lI vs 4).bind fun x4 => (lI vs 5).bind fun x5 => (lI vs 6).bind fun x6 => match st with
  | [] => g x0 x1 x2 x3 x4 x5 x6 M
  | _ => none
theorem kf_X12_addsConst_84 {X : cCtx} {o : cO} {r : cM} {g : Nat → Nat → Int32 → Int32 → Int32 → Int32 → Int32 → cM → Option (cM)} (hg : ∀ x0 x1 x2 x3 x4 x5 x6 M, g x0 x1 x2 x3 x4 x5 x6 M = some r → WX X 7 o 84 [some (.ref x0), some (.ref x1), some (.int x2), some (.int x3), some (.int x4), some (.int x5), some (.int x6)] [] M) : ∀ vs st M, kd_X12_addsConst_84 g vs st M = some r → WX X 7 o 84 vs st M := by
  intro vs st M h
  unfold kd_X12_addsConst_84 at h
  obtain ⟨x0, h0, h⟩ := Option.bind_eq_some_iff.mp h
  obtain ⟨x1, h1, h⟩ := Option.bind_eq_some_iff.mp h
  obtain ⟨x2, h2, h⟩ := Option.bind_eq_some_iff.mp h
  obtain ⟨x3, h3, h⟩ := Option.bind_eq_some_iff.mp h
  obtain ⟨x4, h4, h⟩ := Option.bind_eq_some_iff.mp h
  obtain ⟨x5, h5, h⟩ := Option.bind_eq_some_iff.mp h
  obtain ⟨x6, h6, h⟩ := Option.bind_eq_some_iff.mp h
  split at h
  · exact WX_weak (hg _ _ _ _ _ _ _ _ h) rfl ⟨lR_of h0, lR_of h1, lI_of h2, lI_of h3, lI_of h4, lI_of h5, lI_of h6, trivial⟩
  · cases h
def kd_X12_addsConst_139 (g : Nat → Nat → Int32 → Int32 → Int32 → Int32 → cM → Option (cM)) : cKf (cM) := fun vs st M => (lR vs 0).bind fun x0 => (lR vs 1).bind fun x1 => (lI vs 2).bind fun x2 => (lI vs 3).bind fun x3 => (lI vs 4).bind fun x4 => (lI vs 5).bind fun x5 => match st with
  | [] => g x0 x1 x2 x3 x4 x5 M
  | _ => none
theorem kf_X12_addsConst_139 {X : cCtx} {o : cO} {r : cM} {g : Nat → Nat → Int32 → Int32 → Int32 → Int32 → cM → Option (cM)} (hg : ∀ x0 x1 x2 x3 x4 x5 M, g x0 x1 x2 x3 x4 x5 M = some r → WX X 7 o 139 [some (.ref x0), some (.ref x1), some (.int x2), some (.int x3), some (.int x4), some (.int x5), none] [] M) : ∀ vs st M, kd_X12_addsConst_139 g vs st M = some r → WX X 7 o 139 vs st M := by
  intro vs st M h
  unfold kd_X12_addsConst_139 at h
  obtain ⟨x0, h0, h⟩ := Option.bind_eq_some_iff.mp h
  obtain ⟨x1, h1, h⟩ := Option.bind_eq_some_iff.mp h
  obtain ⟨x2, h2, h⟩ := Option.bind_eq_some_iff.mp h
  obtain ⟨x3, h3, h⟩ := Option.bind_eq_some_iff.mp h
  obtain ⟨x4, h4, h⟩ := Option.bind_eq_some_iff.mp h
  obtain ⟨x5, h5, h⟩ := Option.bind_eq_some_iff.mp h
  split at h
  · exact WX_weak (hg _ _ _ _ _ _ _ h) rfl ⟨lR_of h0, lR_of h1, lI_of h2, lI_of h3, lI_of h4, lI_of h5, trivial⟩
  · cases h
set_option maxRecDepth 20000 in
theorem e_X12_addsConst_139 (F : Nat) (t139 : Nat → Nat → Int32 → Int32 → Int32 → Int32 → cM → Option (cM)) (x0 : Nat) (x1 : Nat) (x2 : Int32) (x3 : Int32) (x4 : Int32) (x5 : Int32) (M : cM) : b_X12_addsConst_139 F t139 x0 x1 x2 x3 x4 x5 M = run T_X12_addsConst P_RX12 false 5 (naL na_X12_addsConst) (caL (ca_X12_addsConst F)) (lkN th_X12_addsConst) (lkN sw_X12_addsConst) krV kxN (spL [139]) (KL [(139, kd_X12_addsConst_139 t139)]) 105 139 [some (.ref x0), some (.ref x1), some (.int x2), some (.int x3), some (.int x4), some (.int x5), none] [] M := rfl
theorem ok_X12_addsConst_139 {X : cCtx} {D : Nat} {r : cM} (G : FX X 7 (eV r) cX12_addsConst RX12 5 D) {F : Nat} (hca : ∀ x ∈ (ca_X12_addsConst (R' := cM) F), 1 ≤ D ∧ ceS X.1 RX12 (D - 1) x.1 x.2) (n : Nat) : ∀ x0 x1 x2 x3 x4 x5 M, f_X12_addsConst_139 F n x0 x1 x2 x3 x4 x5 M = some r → WX X 7 (eV r) 139 [some (.ref x0), some (.ref x1), some (.int x2), some (.int x3), some (.int x4), some (.int x5), none] [] M := by
  induction n with
  | zero => intro x0 x1 x2 x3 x4 x5 M h; cases h
  | succ n ih =>
    intro x0 x1 x2 x3 x4 x5 M h
    exact seg_ok G P_RX12_ok T_X12_addsConst_ok hca (fun _ h => absurd h List.not_mem_nil) sw_X12_addsConst_ok krV_ok (kxN_ok (f := eV)) (List.forall_mem_cons.mpr ⟨kf_X12_addsConst_139 (ih), fun _ h => absurd h List.not_mem_nil⟩) ((e_X12_addsConst_139 F (f_X12_addsConst_139 F n) x0 x1 x2 x3 x4 x5 M).symm.trans h)
set_option maxRecDepth 20000 in
theorem e_X12_addsConst_84 (F : Nat) (t58 : Nat → Nat → Int32 → Int32 → Int32 → Int32 → cM → Option (cM)) (t84 : Nat → Nat → Int32 → Int32 → Int32 → Int32 → Int32 → cM → Option (cM)) (x0 : Nat) (x1 : Nat) (x2 : Int32) (x3 : Int32) (x4 : Int32) (x5 : Int32) (x6 : Int32) (M : cM) : b_X12_addsConst_84 F t58 t84 x0 x1 x2 x3 x4 x5 x6 M = run T_X12_addsConst P_RX12 false 5 (naL na_X12_addsConst) (caL (ca_X12_addsConst F)) (lkN th_X12_addsConst) (lkN sw_X12_addsConst) krV kxN (spL [58, 84]) (KL [(58, kd_X12_addsConst_58 t58), (84, kd_X12_addsConst_84 t84)]) 105 84 [some (.ref x0), some (.ref x1), some (.int x2), some (.int x3), some (.int x4), some (.int x5), some (.int x6)] [] M := rfl
theorem ok_X12_addsConst_84 {X : cCtx} {D : Nat} {r : cM} (G : FX X 7 (eV r) cX12_addsConst RX12 5 D) {F : Nat} (hca : ∀ x ∈ (ca_X12_addsConst (R' := cM) F), 1 ≤ D ∧ ceS X.1 RX12 (D - 1) x.1 x.2) (k58 : Nat → Nat → Int32 → Int32 → Int32 → Int32 → cM → Option (cM)) (hk58 : ∀ x0 x1 x2 x3 x4 x5 M, k58 x0 x1 x2 x3 x4 x5 M = some r → WX X 7 (eV r) 58 [some (.ref x0), some (.ref x1), some (.int x2), some (.int x3), some (.int x4), some (.int x5), none] [] M) (n : Nat) : ∀ x0 x1 x2 x3 x4 x5 x6 M, f_X12_addsConst_84 F k58 n x0 x1 x2 x3 x4 x5 x6 M = some r → WX X 7 (eV r) 84 [some (.ref x0), some (.ref x1), some (.int x2), some (.int x3), some (.int x4), some (.int x5), some (.int x6)] [] M := by
  induction n with
  | zero => intro x0 x1 x2 x3 x4 x5 x6 M h; cases h
  | succ n ih =>
    intro x0 x1 x2 x3 x4 x5 x6 M h
    exact seg_ok G P_RX12_ok T_X12_addsConst_ok hca (fun _ h => absurd h List.not_mem_nil) sw_X12_addsConst_ok krV_ok (kxN_ok (f := eV)) (List.forall_mem_cons.mpr ⟨kf_X12_addsConst_58 (hk58), List.forall_mem_cons.mpr ⟨kf_X12_addsConst_84 (ih), fun _ h => absurd h List.not_mem_nil⟩⟩) ((e_X12_addsConst_84 F (k58) (f_X12_addsConst_84 F k58 n) x0 x1 x2 x3 x4 x5 x6 M).symm.trans h)
set_option maxRecDepth 20000 in
theorem e_X12_addsConst_58 (F : Nat) (t84 : Nat → Nat → Int32 → Int32 → Int32 → Int32 → Int32 → cM → Option (cM)) (t139 : Nat → Nat → Int32 → Int32 → Int32 → Int32 → cM → Option (cM)) (x0 : Nat) (x1 : Nat) (x2 : Int32) (x3 : Int32) (x4 : Int32) (x5 : Int32) (M : cM) : b_X12_addsConst_58 F t84 t139 x0 x1 x2 x3 x4 x5 M = run T_X12_addsConst P_RX12 false 5 (naL na_X12_addsConst) (caL (ca_X12_addsConst F)) (lkN th_X12_addsConst) (lkN sw_X12_addsConst) krV kxN (spL [84, 139]) (KL [(84, kd_X12_addsConst_84 t84), (139, kd_X12_addsConst_139 t139)]) 105 58 [some (.ref x0), some (.ref x1), some (.int x2), some (.int x3), some (.int x4), some (.int x5), none] [] M := rfl
theorem ok_X12_addsConst_58 {X : cCtx} {D : Nat} {r : cM} (G : FX X 7 (eV r) cX12_addsConst RX12 5 D) {F : Nat} (hca : ∀ x ∈ (ca_X12_addsConst (R' := cM) F), 1 ≤ D ∧ ceS X.1 RX12 (D - 1) x.1 x.2) (n : Nat) : ∀ x0 x1 x2 x3 x4 x5 M, f_X12_addsConst_58 F n x0 x1 x2 x3 x4 x5 M = some r → WX X 7 (eV r) 58 [some (.ref x0), some (.ref x1), some (.int x2), some (.int x3), some (.int x4), some (.int x5), none] [] M := by
  induction n with
  | zero => intro x0 x1 x2 x3 x4 x5 M h; cases h
  | succ n ih =>
    intro x0 x1 x2 x3 x4 x5 M h
    exact seg_ok G P_RX12_ok T_X12_addsConst_ok hca (fun _ h => absurd h List.not_mem_nil) sw_X12_addsConst_ok krV_ok (kxN_ok (f := eV)) (List.forall_mem_cons.mpr ⟨kf_X12_addsConst_84 (ok_X12_addsConst_84 G hca (f_X12_addsConst_58 F n) ih F), List.forall_mem_cons.mpr ⟨kf_X12_addsConst_139 (ok_X12_addsConst_139 G hca F), fun _ h => absurd h List.not_mem_nil⟩⟩) ((e_X12_addsConst_58 F (f_X12_addsConst_84 F (f_X12_addsConst_58 F n) F) (f_X12_addsConst_139 F F) x0 x1 x2 x3 x4 x5 M).symm.trans h)
set_option maxRecDepth 20000 in
theorem e_X12_addsConst_30 (F : Nat) (t58 : Nat → Nat → Int32 → Int32 → Int32 → Int32 → cM → Option (cM)) (x0 : Nat) (x1 : Nat) (x2 : Int32) (x3 : Int32) (x4 : Int32) (M : cM) : b_X12_addsConst_30 F t58 x0 x1 x2 x3 x4 M = run T_X12_addsConst P_RX12 false 5 (naL na_X12_addsConst) (caL (ca_X12_addsConst F)) (lkN th_X12_addsConst) (lkN sw_X12_addsConst) krV kxN (spL [58]) (KL [(58, kd_X12_addsConst_58 t58)]) 105 30 [some (.ref x0), some (.ref x1), some (.int x2), some (.int x3), some (.int x4), none, none] [] M := rfl
theorem ok_X12_addsConst_30 {X : cCtx} {D : Nat} {r : cM} (G : FX X 7 (eV r) cX12_addsConst RX12 5 D) {F : Nat} (hca : ∀ x ∈ (ca_X12_addsConst (R' := cM) F), 1 ≤ D ∧ ceS X.1 RX12 (D - 1) x.1 x.2) : ∀ x0 x1 x2 x3 x4 M, f_X12_addsConst_30 F x0 x1 x2 x3 x4 M = some r → WX X 7 (eV r) 30 [some (.ref x0), some (.ref x1), some (.int x2), some (.int x3), some (.int x4), none, none] [] M := by
  intro x0 x1 x2 x3 x4 M h
  exact seg_ok G P_RX12_ok T_X12_addsConst_ok hca (fun _ h => absurd h List.not_mem_nil) sw_X12_addsConst_ok krV_ok (kxN_ok (f := eV)) (List.forall_mem_cons.mpr ⟨kf_X12_addsConst_58 (ok_X12_addsConst_58 G hca F), fun _ h => absurd h List.not_mem_nil⟩) ((e_X12_addsConst_30 F (f_X12_addsConst_58 F F) x0 x1 x2 x3 x4 M).symm.trans h)
set_option maxRecDepth 20000 in
theorem e_X12_addsConst_3 (F : Nat) (t3 : Nat → Nat → Int32 → Int32 → Int32 → cM → Option (cM)) (t30 : Nat → Nat → Int32 → Int32 → Int32 → cM → Option (cM)) (x0 : Nat) (x1 : Nat) (x2 : Int32) (x3 : Int32) (x4 : Int32) (M : cM) : b_X12_addsConst_3 F t3 t30 x0 x1 x2 x3 x4 M = run T_X12_addsConst P_RX12 false 5 (naL na_X12_addsConst) (caL (ca_X12_addsConst F)) (lkN th_X12_addsConst) (lkN sw_X12_addsConst) krV kxN (spL [3, 30]) (KL [(3, kd_X12_addsConst_3 t3), (30, kd_X12_addsConst_30 t30)]) 105 3 [some (.ref x0), some (.ref x1), some (.int x2), some (.int x3), some (.int x4), none, none] [] M := rfl
theorem ok_X12_addsConst_3 {X : cCtx} {D : Nat} {r : cM} (G : FX X 7 (eV r) cX12_addsConst RX12 5 D) {F : Nat} (hca : ∀ x ∈ (ca_X12_addsConst (R' := cM) F), 1 ≤ D ∧ ceS X.1 RX12 (D - 1) x.1 x.2) (n : Nat) : ∀ x0 x1 x2 x3 x4 M, f_X12_addsConst_3 F n x0 x1 x2 x3 x4 M = some r → WX X 7 (eV r) 3 [some (.ref x0), some (.ref x1), some (.int x2), some (.int x3), some (.int x4), none, none] [] M := by
  induction n with
  | zero => intro x0 x1 x2 x3 x4 M h; cases h
  | succ n ih =>
    intro x0 x1 x2 x3 x4 M h
    exact seg_ok G P_RX12_ok T_X12_addsConst_ok hca (fun _ h => absurd h List.not_mem_nil) sw_X12_addsConst_ok krV_ok (kxN_ok (f := eV)) (List.forall_mem_cons.mpr ⟨kf_X12_addsConst_3 (ih), List.forall_mem_cons.mpr ⟨kf_X12_addsConst_30 (ok_X12_addsConst_30 G hca), fun _ h => absurd h List.not_mem_nil⟩⟩) ((e_X12_addsConst_3 F (f_X12_addsConst_3 F n) (f_X12_addsConst_30 F) x0 x1 x2 x3 x4 M).symm.trans h)
set_option maxRecDepth 20000 in
theorem e_X12_addsConst_0 (F : Nat) (t3 : Nat → Nat → Int32 → Int32 → Int32 → cM → Option (cM)) (x0 : Nat) (x1 : Nat) (x2 : Int32) (x3 : Int32) (M : cM) : b_X12_addsConst_0 F t3 x0 x1 x2 x3 M = run T_X12_addsConst P_RX12 false 5 (naL na_X12_addsConst) (caL (ca_X12_addsConst F)) (lkN th_X12_addsConst) (lkN sw_X12_addsConst) krV kxN (spL [3]) (KL [(3, kd_X12_addsConst_3 t3)]) 105 0 [some (.ref x0), some (.ref x1), some (.int x2), some (.int x3), none, none, none] [] M := rfl
theorem ok_X12_addsConst_0 {X : cCtx} {D : Nat} {r : cM} (G : FX X 7 (eV r) cX12_addsConst RX12 5 D) {F : Nat} (hca : ∀ x ∈ (ca_X12_addsConst (R' := cM) F), 1 ≤ D ∧ ceS X.1 RX12 (D - 1) x.1 x.2) : ∀ x0 x1 x2 x3 M, f_X12_addsConst_0 F x0 x1 x2 x3 M = some r → WX X 7 (eV r) 0 [some (.ref x0), some (.ref x1), some (.int x2), some (.int x3), none, none, none] [] M := by
  intro x0 x1 x2 x3 M h
  exact seg_ok G P_RX12_ok T_X12_addsConst_ok hca (fun _ h => absurd h List.not_mem_nil) sw_X12_addsConst_ok krV_ok (kxN_ok (f := eV)) (List.forall_mem_cons.mpr ⟨kf_X12_addsConst_3 (ok_X12_addsConst_3 G hca F), fun _ h => absurd h List.not_mem_nil⟩) ((e_X12_addsConst_0 F (f_X12_addsConst_3 F F) x0 x1 x2 x3 M).symm.trans h)
theorem c_X12_addsConst {q : cL} (hst : q.1.stackTraces = false) {D : Nat} (hD : 1 ≤ D) (F : Nat) (a0 : Nat) (a1 : Nat) (a2 : Int32) (a3 : Int32) (M : cM) (r : cM) (h : f_X12_addsConst F a0 a1 a2 a3 M = some r) : CTx q yX12_addsConst (.code yX12_addsConst cX12_addsConst 7 none) D [.ref a0, .ref a1, .int a2, .int a3] M (eV r) ∧ ∃ fs, M[a0]? = some (.inr (10, fs)) := by
  unfold f_X12_addsConst at h
  split at h
  · next hi => exact ⟨CTx_of (own := RX12) (rk := 5) hst (by decide +kernel) rfl (rfl) (Nat.le_of_ble_eq_true rfl) (fun X hX G => by subst hX; exact ok_X12_addsConst_0 G (ca_X12_addsConst_ok hst hD F) a0 a1 a2 a3 M h), isC_of hi⟩
  · cases h
def n_X12_addsConst {R' : Type} (f : Nat → Nat → Int32 → Int32 → cM → Option (cM)) : cFn R' := fun as M κ κx => match as with
  | [.ref a0, .ref a1, .int a2, .int a3] => (f a0 a1 a2 a3 M).bind fun p => κ none p
  | _ => none
theorem w_X12_addsConst : ∀ w ∈ [Cond.instanceMethod yX12_addsConst, .selects yX12_addsConst.cls yX12_addsConst yX12_addsConst, .initialized yX12_addsConst.cls, .code yX12_addsConst cX12_addsConst 7 none], w ∈ lw_good := List.forall_mem_cons.mpr ⟨lw_good_of (tb_ok 1464 (by decide +kernel)) rfl, List.forall_mem_cons.mpr ⟨lw_good_of (ts_ok 47 (by decide +kernel)) rfl, List.forall_mem_cons.mpr ⟨lw_good_of (tb_ok 11 (by decide +kernel)) rfl, List.forall_mem_cons.mpr ⟨lw_good_of (tb_ok 1465 (by decide +kernel)) rfl, fun _ h => absurd h List.not_mem_nil⟩⟩⟩⟩
theorem n_X12_addsConst_ok {R' : Type} {q : cL} {own : String} {d k : Nat} {f : Nat → Nat → Int32 → Int32 → cM → Option (cM)} (hl : Cond.methodLink own k yX12_addsConst ∈ lw_good) (hf : ∀ a0 a1 a2 a3 M r, f a0 a1 a2 a3 M = some r → CTx q yX12_addsConst (.code yX12_addsConst cX12_addsConst 7 none) d [.ref a0, .ref a1, .int a2, .int a3] M (eV r) ∧ ∃ fs, M[a0]? = some (.inr (10, fs))) : ceS q own d (3 * k + 1) (n_X12_addsConst (R' := R') f) := by
  intro as M κ κx r h
  unfold n_X12_addsConst at h
  split at h
  · obtain ⟨p, h1, h2⟩ := Option.bind_eq_some_iff.mp h
    obtain ⟨hc, fs, ha⟩ := hf _ _ _ _ _ _ h1
    exact ⟨eV p, fun _ => h2, fun hne => absurd rfl hne, Or.inr (Or.inl ⟨yX12_addsConst, cX12_addsConst, 7, none, k, 3, _, _, 10, TX12, 76, fs, rfl, rfl, hc, ha, rfl, List.forall_mem_cons.mpr ⟨hl, w_X12_addsConst⟩, ⟨rfl, by decide +kernel, by decide +kernel, by decide +kernel⟩, rfl, by decide⟩)⟩
  · cases h
-- PatchbayScriptModel.matches(IIZ)V
def T_X12_matches : List cRow := [(0, .iconst 4, 1, 0), (1, .aload_n 0, 2, 0), (2, .getfield 303, 5, 0), (5, .imul, 6, 0), (6, .iload_n 1, 7, 0), (7, .iadd, 8, 0), (8, .istore 4, 10, 0), (10, .iconst 0, 11, 0), (11, .istore 5, 13, 0), (13, .iconst 0, 14, 0), (14, .istore 6, 16, 0), (16, .iload 6, 18, 0), (18, .aload_n 0, 19, 0), (19, .getfield 228, 22, 0), (22, .iadd, 23, 0), (23, .aload_n 0, 24, 0), (24, .getfield 40, 27, 0), (27, .iload 4, 29, 0), (29, .iaload, 30, 0), (30, .if_icmp .gt 90, 33, 120), (33, .iload_n 3, 34, 0), (34, .ifCond .eq 86, 37, 120), (37, .iconst 1, 38, 0), (38, .istore 7, 40, 0), (40, .iconst 0, 41, 0), (41, .istore 8, 43, 0), (43, .iload 8, 45, 0), (45, .aload_n 0, 46, 0), (46, .getfield 228, 49, 0), (49, .if_icmp .ge 47, 52, 96), (52, .iload 7, 54, 0), (54, .ifCond .eq 42, 57, 96), (57, .aload_n 0, 58, 0), (58, .getfield 37, 61, 0), (61, .bipush 20, 63, 0), (63, .iload 4, 65, 0), (65, .imul, 66, 0), (66, .iload 6, 68, 0), (68, .iadd, 69, 0), (69, .iload 8, 71, 0), (71, .iadd, 72, 0), (72, .iaload, 73, 0), (73, .aload_n 0, 74, 0), (74, .getfield 125, 77, 0), (77, .iload 8, 79, 0), (79, .iaload, 80, 0), (80, .if_icmp .ne 7, 83, 87), (83, .iconst 1, 84, 0), (84, .goto 4, 87, 88), (87, .iconst 0, 88, 0), (88, .istore 7, 90, 0), (90, .iinc 8 1, 93, 0), (93, .goto (-50), 96, 43), (96, .iload 5, 98, 0), (98, .iload 7, 100, 0), (100, .ifCond .eq 10, 103, 110), (103, .iconst 1, 104, 0), (104, .iload 6, 106, 0), (106, .ishl, 107, 0), (107, .goto 4, 110, 111), (110, .iconst 0, 111, 0), (111, .ior, 112, 0), (112, .istore 5, 114, 0), (114, .iinc 6 1, 117, 0), (117, .goto (-101), 120, 16), (120, .aload_n 0, 121, 0), (121, .getfield 134, 124, 0), (124, .sipush 4000, 127, 0), (127, .iload_n 1, 128, 0), (128, .imul, 129, 0), (129, .iload_n 2, 130, 0), (130, .iadd, 131, 0), (131, .iload 5, 133, 0), (133, .iastore, 134, 0), (134, .aload_n 0, 135, 0), (135, .getfield 137, 138, 0), (138, .sipush 4000, 141, 0), (141, .iload_n 1, 142, 0), (142, .imul, 143, 0), (143, .iload_n 2, 144, 0), (144, .iadd, 145, 0), (145, .aload_n 0, 146, 0), (146, .getfield 228, 149, 0), (149, .iastore, 150, 0), (150, .return_, 151, 0)]
theorem T_X12_matches_ok : T_X12_matches.all (rowB cX12_matches) = true := by decide +kernel
def th_X12_matches : List (Nat × Nat) := []
def sw_X12_matches : List (Nat × (List (Int32 × Nat) × Nat)) := []
theorem sw_X12_matches_ok : ∀ q ∈ sw_X12_matches, swS cX12_matches q := fun _ h => absurd h List.not_mem_nil
def na_X12_matches : List (Nat × Nat) := []
def ca_X12_matches {R' : Type} (F : Nat) : List (Nat × cFn R') := []
theorem ca_X12_matches_ok {R' : Type} {q : cL} (hst : q.1.stackTraces = false) {D : Nat} (hD : 0 ≤ D) (F : Nat) : ∀ x ∈ (ca_X12_matches (R' := R') F), 1 ≤ D ∧ ceS q RX12 (D - 1) x.1 x.2 := fun _ h => absurd h List.not_mem_nil
def kd_X12_matches_16 (g : Nat → Int32 → Int32 → Int32 → Int32 → Int32 → Int32 → cM → Option (cM)) : cKf (cM) := fun vs st M => (lR vs 0).bind fun x0 => (lI vs 1).bind fun x1 => (lI vs 2).bind fun x2 => (lI vs 3).bind fun x3 => (lI vs 4).bind fun x4 => (lI vs 5).bind fun x5 => (lI vs 6).bind fun x6 => match st with
  | [] => g x0 x1 x2 x3 x4 x5 x6 M
  | _ => none
theorem kf_X12_matches_16 {X : cCtx} {o : cO} {r : cM} {g : Nat → Int32 → Int32 → Int32 → Int32 → Int32 → Int32 → cM → Option (cM)} (hg : ∀ x0 x1 x2 x3 x4 x5 x6 M, g x0 x1 x2 x3 x4 x5 x6 M = some r → WX X 9 o 16 [some (.ref x0), some (.int x1), some (.int x2), some (.int x3), some (.int x4), some (.int x5), some (.int x6), none, none] [] M) : ∀ vs st M, kd_X12_matches_16 g vs st M = some r → WX X 9 o 16 vs st M := by
  intro vs st M h
  unfold kd_X12_matches_16 at h
  obtain ⟨x0, h0, h⟩ := Option.bind_eq_some_iff.mp h
  obtain ⟨x1, h1, h⟩ := Option.bind_eq_some_iff.mp h
  obtain ⟨x2, h2, h⟩ := Option.bind_eq_some_iff.mp h
  obtain ⟨x3, h3, h⟩ := Option.bind_eq_some_iff.mp h
  obtain ⟨x4, h4, h⟩ := Option.bind_eq_some_iff.mp h
  obtain ⟨x5, h5, h⟩ := Option.bind_eq_some_iff.mp h
  obtain ⟨x6, h6, h⟩ := Option.bind_eq_some_iff.mp h
  split at h
  · exact WX_weak (hg _ _ _ _ _ _ _ _ h) rfl ⟨lR_of h0, lI_of h1, lI_of h2, lI_of h3, lI_of h4, lI_of h5, lI_of h6, trivial⟩
  · cases h
def kd_X12_matches_43 (g : Nat → Int32 → Int32 → Int32 → Int32 → Int32 → Int32 → Int32 → Int32 → cM → Option (cM)) : cKf (cM) := fun vs st M => (lR vs 0).bind fun x0 => (lI vs 1).bind fun x1 => (lI vs 2).bind fun x2 => (lI vs 3).bind fun x3 => (lI vs 4).bind fun x4 => (lI vs 5).bind fun x5 => (lI vs 6).bind fun x6 => (lI vs 7).bind fun x7 => (lI vs 8).bind fun x8 => match st with
  | [] => g x0 x1 x2 x3 x4 x5 x6 x7 x8 M
  | _ => none
theorem kf_X12_matches_43 {X : cCtx} {o : cO} {r : cM} {g : Nat → Int32 → Int32 → Int32 → Int32 → Int32 → Int32 → Int32 → Int32 → cM → Option (cM)} (hg : ∀ x0 x1 x2 x3 x4 x5 x6 x7 x8 M, g x0 x1 x2 x3 x4 x5 x6 x7 x8 M = some r → WX X 9 o 43 [some (.ref x0), some (.int x1), some (.int x2), some (.int x3), some (.int x4), some (.int x5), some (.int x6), some (.int x7), some (.int x8)] [] M) : ∀ vs st M, kd_X12_matches_43 g vs st M = some r → WX X 9 o 43 vs st M := by
  intro vs st M h
  unfold kd_X12_matches_43 at h
  obtain ⟨x0, h0, h⟩ := Option.bind_eq_some_iff.mp h
  obtain ⟨x1, h1, h⟩ := Option.bind_eq_some_iff.mp h
  obtain ⟨x2, h2, h⟩ := Option.bind_eq_some_iff.mp h
  obtain ⟨x3, h3, h⟩ := Option.bind_eq_some_iff.mp h
  obtain ⟨x4, h4, h⟩ := Option.bind_eq_some_iff.mp h
  obtain ⟨x5, h5, h⟩ := Option.bind_eq_some_iff.mp h
  obtain ⟨x6, h6, h⟩ := Option.bind_eq_some_iff.mp h
  obtain ⟨x7, h7, h⟩ := Option.bind_eq_some_iff.mp h
  obtain ⟨x8, h8, h⟩ := Option.bind_eq_some_iff.mp h
  split at h
  · exact WX_weak (hg _ _ _ _ _ _ _ _ _ _ h) rfl ⟨lR_of h0, lI_of h1, lI_of h2, lI_of h3, lI_of h4, lI_of h5, lI_of h6, lI_of h7, lI_of h8, trivial⟩
  · cases h
def kd_X12_matches_96 (g : Nat → Int32 → Int32 → Int32 → Int32 → Int32 → Int32 → Int32 → cM → Option (cM)) : cKf (cM) := fun vs st M => (lR vs 0).bind fun x0 => (lI vs 1).bind fun x1 => (lI vs 2).bind fun x2 => (lI vs 3).bind fun x3 => (lI vs 4).bind fun x4 => (lI vs 5).bind fun x5 => (lI vs 6).bind fun x6 => (lI vs 7).bind fun x7 => match st with
  | [] => g x0 x1 x2 x3 x4 x5 x6 x7 M
  | _ => none
theorem kf_X12_matches_96 {X : cCtx} {o : cO} {r : cM} {g : Nat → Int32 → Int32 → Int32 → Int32 → Int32 → Int32 → Int32 → cM → Option (cM)} (hg : ∀ x0 x1 x2 x3 x4 x5 x6 x7 M, g x0 x1 x2 x3 x4 x5 x6 x7 M = some r → WX X 9 o 96 [some (.ref x0), some (.int x1), some (.int x2), some (.int x3), some (.int x4), some (.int x5), some (.int x6), some (.int x7), none] [] M) : ∀ vs st M, kd_X12_matches_96 g vs st M = some r → WX X 9 o 96 vs st M := by
  intro vs st M h
  unfold kd_X12_matches_96 at h
  obtain ⟨x0, h0, h⟩ := Option.bind_eq_some_iff.mp h
  obtain ⟨x1, h1, h⟩ := Option.bind_eq_some_iff.mp h
  obtain ⟨x2, h2, h⟩ := Option.bind_eq_some_iff.mp h
  obtain ⟨x3, h3, h⟩ := Option.bind_eq_some_iff.mp h
  obtain ⟨x4, h4, h⟩ := Option.bind_eq_some_iff.mp h
  obtain ⟨x5, h5, h⟩ := Option.bind_eq_some_iff.mp h
  obtain ⟨x6, h6, h⟩ := Option.bind_eq_some_iff.mp h
  obtain ⟨x7, h7, h⟩ := Option.bind_eq_some_iff.mp h
  split at h
  · exact WX_weak (hg _ _ _ _ _ _ _ _ _ h) rfl ⟨lR_of h0, lI_of h1, lI_of h2, lI_of h3, lI_of h4, lI_of h5, lI_of h6, lI_of h7, trivial⟩
  · cases h
def kd_X12_matches_120 (g : Nat → Int32 → Int32 → Int32 → cM → Option (cM)) : cKf (cM) := fun vs st M => (lR vs 0).bind fun x0 => (lI vs 1).bind fun x1 => (lI vs 2).bind fun x2 => (lI vs 5).bind fun x5 => match st with
  | [] => g x0 x1 x2 x5 M
  | _ => none
theorem kf_X12_matches_120 {X : cCtx} {o : cO} {r : cM} {g : Nat → Int32 → Int32 → Int32 → cM → Option (cM)} (hg : ∀ x0 x1 x2 x5 M, g x0 x1 x2 x5 M = some r → WX X 9 o 120 [some (.ref x0), some (.int x1), some (.int x2), none, none, some (.int x5), none, none, none] [] M) : ∀ vs st M, kd_X12_matches_120 g vs st M = some r → WX X 9 o 120 vs st M := by
  intro vs st M h
  unfold kd_X12_matches_120 at h
  obtain ⟨x0, h0, h⟩ := Option.bind_eq_some_iff.mp h
  obtain ⟨x1, h1, h⟩ := Option.bind_eq_some_iff.mp h
  obtain ⟨x2, h2, h⟩ := Option.bind_eq_some_iff.mp h
  obtain ⟨x5, h5, h⟩ := Option.bind_eq_some_iff.mp h
  split at h
  · exact WX_weak (hg _ _ _ _ _ h) rfl ⟨lR_of h0, lI_of h1, lI_of h2, lI_of h5, trivial⟩
  · cases h
set_option maxRecDepth 20000 in
theorem e_X12_matches_120 (F : Nat) (x0 : Nat) (x1 : Int32) (x2 : Int32) (x5 : Int32) (M : cM) : b_X12_matches_120 F x0 x1 x2 x5 M = run T_X12_matches P_RX12 false 5 (naL na_X12_matches) (caL (ca_X12_matches F)) (lkN th_X12_matches) (lkN sw_X12_matches) krV kxN (spL []) (KL []) 88 120 [some (.ref x0), some (.int x1), some (.int x2), none, none, some (.int x5), none, none, none] [] M := rfl
theorem ok_X12_matches_120 {X : cCtx} {D : Nat} {r : cM} (G : FX X 9 (eV r) cX12_matches RX12 5 D) {F : Nat} (hca : ∀ x ∈ (ca_X12_matches (R' := cM) F), 1 ≤ D ∧ ceS X.1 RX12 (D - 1) x.1 x.2) : ∀ x0 x1 x2 x5 M, f_X12_matches_120 F x0 x1 x2 x5 M = some r → WX X 9 (eV r) 120 [some (.ref x0), some (.int x1), some (.int x2), none, none, some (.int x5), none, none, none] [] M := by
  intro x0 x1 x2 x5 M h
  exact seg_ok G P_RX12_ok T_X12_matches_ok hca (fun _ h => absurd h List.not_mem_nil) sw_X12_matches_ok krV_ok (kxN_ok (f := eV)) (fun _ h => absurd h List.not_mem_nil) ((e_X12_matches_120 F x0 x1 x2 x5 M).symm.trans h)
set_option maxRecDepth 20000 in
theorem e_X12_matches_96 (F : Nat) (t16 : Nat → Int32 → Int32 → Int32 → Int32 → Int32 → Int32 → cM → Option (cM)) (x0 : Nat) (x1 : Int32) (x2 : Int32) (x3 : Int32) (x4 : Int32) (x5 : Int32) (x6 : Int32) (x7 : Int32) (M : cM) : b_X12_matches_96 F t16 x0 x1 x2 x3 x4 x5 x6 x7 M = run T_X12_matches P_RX12 false 5 (naL na_X12_matches) (caL (ca_X12_matches F)) (lkN th_X12_matches) (lkN sw_X12_matches) krV kxN (spL [16]) (KL [(16, kd_X12_matches_16 t16)]) 88 96 [some (.ref x0), some (.int x1), some (.int x2), some (.int x3), some (.int x4), some (.int x5), some (.int x6), some (.int x7), none] [] M := rfl
theorem ok_X12_matches_96 {X : cCtx} {D : Nat} {r : cM} (G : FX X 9 (eV r) cX12_matches RX12 5 D) {F : Nat} (hca : ∀ x ∈ (ca_X12_matches (R' := cM) F), 1 ≤ D ∧ ceS X.1 RX12 (D - 1) x.1 x.2) (k16 : Nat → Int32 → Int32 → Int32 → Int32 → Int32 → Int32 → cM → Option (cM)) (hk16 : ∀ x0 x1 x2 x3 x4 x5 x6 M, k16 x0 x1 x2 x3 x4 x5 x6 M = some r → WX X 9 (eV r) 16 [some (.ref x0), some (.int x1), some (.int x2), some (.int x3), some (.int x4), some (.int x5), some (.int x6), none, none] [] M) : ∀ x0 x1 x2 x3 x4 x5 x6 x7 M, f_X12_matches_96 F k16 x0 x1 x2 x3 x4 x5 x6 x7 M = some r → WX X 9 (eV r) 96 [some (.ref x0), some (.int x1), some (.int x2), some (.int x3), some (.int x4), some (.int x5), some (.int x6), some (.int x7), none] [] M := by
  intro x0 x1 x2 x3 x4 x5 x6 x7 M h
  exact seg_ok G P_RX12_ok T_X12_matches_ok hca (fun _ h => absurd h List.not_mem_nil) sw_X12_matches_ok krV_ok (kxN_ok (f := eV)) (List.forall_mem_cons.mpr ⟨kf_X12_matches_16 (hk16), fun _ h => absurd h List.not_mem_nil⟩) ((e_X12_matches_96 F (k16) x0 x1 x2 x3 x4 x5 x6 x7 M).symm.trans h)
set_option maxRecDepth 20000 in
theorem e_X12_matches_43 (F : Nat) (t43 : Nat → Int32 → Int32 → Int32 → Int32 → Int32 → Int32 → Int32 → Int32 → cM → Option (cM)) (t96 : Nat → Int32 → Int32 → Int32 → Int32 → Int32 → Int32 → Int32 → cM → Option (cM)) (x0 : Nat) (x1 : Int32) (x2 : Int32) (x3 : Int32) (x4 : Int32) (x5 : Int32) (x6 : Int32) (x7 : Int32) (x8 : Int32) (M : cM) : b_X12_matches_43 F t43 t96 x0 x1 x2 x3 x4 x5 x6 x7 x8 M = run T_X12_matches P_RX12 false 5 (naL na_X12_matches) (caL (ca_X12_matches F)) (lkN th_X12_matches) (lkN sw_X12_matches) krV kxN (spL [43, 96]) (KL [(43, kd_X12_matches_43 t43), (96, kd_X12_matches_96 t96)]) 88 43 [some (.ref x0), some (.int x1), some (.int x2), some (.int x3), some (.int x4), some (.int x5), some (.int x6), some (.int x7), some (.int x8)] [] M := rfl
theorem ok_X12_matches_43 {X : cCtx} {D : Nat} {r : cM} (G : FX X 9 (eV r) cX12_matches RX12 5 D) {F : Nat} (hca : ∀ x ∈ (ca_X12_matches (R' := cM) F), 1 ≤ D ∧ ceS X.1 RX12 (D - 1) x.1 x.2) (k16 : Nat → Int32 → Int32 → Int32 → Int32 → Int32 → Int32 → cM → Option (cM)) (hk16 : ∀ x0 x1 x2 x3 x4 x5 x6 M, k16 x0 x1 x2 x3 x4 x5 x6 M = some r → WX X 9 (eV r) 16 [some (.ref x0), some (.int x1), some (.int x2), some (.int x3), some (.int x4), some (.int x5), some (.int x6), none, none] [] M) (n : Nat) : ∀ x0 x1 x2 x3 x4 x5 x6 x7 x8 M, f_X12_matches_43 F k16 n x0 x1 x2 x3 x4 x5 x6 x7 x8 M = some r → WX X 9 (eV r) 43 [some (.ref x0), some (.int x1), some (.int x2), some (.int x3), some (.int x4), some (.int x5), some (.int x6), some (.int x7), some (.int x8)] [] M := by
  induction n with
  | zero => intro x0 x1 x2 x3 x4 x5 x6 x7 x8 M h; cases h
  | succ n ih =>
    intro x0 x1 x2 x3 x4 x5 x6 x7 x8 M h
    exact seg_ok G P_RX12_ok T_X12_matches_ok hca (fun _ h => absurd h List.not_mem_nil) sw_X12_matches_ok krV_ok (kxN_ok (f := eV)) (List.forall_mem_cons.mpr ⟨kf_X12_matches_43 (ih), List.forall_mem_cons.mpr ⟨kf_X12_matches_96 (ok_X12_matches_96 G hca k16 hk16), fun _ h => absurd h List.not_mem_nil⟩⟩) ((e_X12_matches_43 F (f_X12_matches_43 F k16 n) (f_X12_matches_96 F k16) x0 x1 x2 x3 x4 x5 x6 x7 x8 M).symm.trans h)
set_option maxRecDepth 20000 in
theorem e_X12_matches_16 (F : Nat) (t43 : Nat → Int32 → Int32 → Int32 → Int32 → Int32 → Int32 → Int32 → Int32 → cM → Option (cM)) (t120 : Nat → Int32 → Int32 → Int32 → cM → Option (cM)) (x0 : Nat) (x1 : Int32) (x2 : Int32) (x3 : Int32) (x4 : Int32) (x5 : Int32) (x6 : Int32) (M : cM) : b_X12_matches_16 F t43 t120 x0 x1 x2 x3 x4 x5 x6 M = run T_X12_matches P_RX12 false 5 (naL na_X12_matches) (caL (ca_X12_matches F)) (lkN th_X12_matches) (lkN sw_X12_matches) krV kxN (spL [43, 120]) (KL [(43, kd_X12_matches_43 t43), (120, kd_X12_matches_120 t120)]) 88 16 [some (.ref x0), some (.int x1), some (.int x2), some (.int x3), some (.int x4), some (.int x5), some (.int x6), none, none] [] M := rfl
theorem ok_X12_matches_16 {X : cCtx} {D : Nat} {r : cM} (G : FX X 9 (eV r) cX12_matches RX12 5 D) {F : Nat} (hca : ∀ x ∈ (ca_X12_matches (R' := cM) F), 1 ≤ D ∧ ceS X.1 RX12 (D - 1) x.1 x.2) (n : Nat) : ∀ x0 x1 x2 x3 x4 x5 x6 M, f_X12_matches_16 F n x0 x1 x2 x3 x4 x5 x6 M = some r → WX X 9 (eV r) 16 [some (.ref x0), some (.int x1), some (.int x2), some (.int x3), some (.int x4), some (.int x5), some (.int x6), none, none] [] M := by
  induction n with
  | zero => intro x0 x1 x2 x3 x4 x5 x6 M h; cases h
  | succ n ih =>
    intro x0 x1 x2 x3 x4 x5 x6 M h
    exact seg_ok G P_RX12_ok T_X12_matches_ok hca (fun _ h => absurd h List.not_mem_nil) sw_X12_matches_ok krV_ok (kxN_ok (f := eV)) (List.forall_mem_cons.mpr ⟨kf_X12_matches_43 (ok_X12_matches_43 G hca (f_X12_matches_16 F n) ih F), List.forall_mem_cons.mpr ⟨kf_X12_matches_120 (ok_X12_matches_120 G hca), fun _ h => absurd h List.not_mem_nil⟩⟩) ((e_X12_matches_16 F (f_X12_matches_43 F (f_X12_matches_16 F n) F) (f_X12_matches_120 F) x0 x1 x2 x3 x4 x5 x6 M).symm.trans h)
set_option maxRecDepth 20000 in
theorem e_X12_matches_0 (F : Nat) (t16 : Nat → Int32 → Int32 → Int32 → Int32 → Int32 → Int32 → cM → Option (cM)) (x0 : Nat) (x1 : Int32) (x2 : Int32) (x3 : Int32) (M : cM) : b_X12_matches_0 F t16 x0 x1 x2 x3 M = run T_X12_matches P_RX12 false 5 (naL na_X12_matches) (caL (ca_X12_matches F)) (lkN th_X12_matches) (lkN sw_X12_matches) krV kxN (spL [16]) (KL [(16, kd_X12_matches_16 t16)]) 88 0 [some (.ref x0), some (.int x1), some (.int x2), some (.int x3), none, none, none, none, none] [] M := rfl
theorem ok_X12_matches_0 {X : cCtx} {D : Nat} {r : cM} (G : FX X 9 (eV r) cX12_matches RX12 5 D) {F : Nat} (hca : ∀ x ∈ (ca_X12_matches (R' := cM) F), 1 ≤ D ∧ ceS X.1 RX12 (D - 1) x.1 x.2) : ∀ x0 x1 x2 x3 M, f_X12_matches_0 F x0 x1 x2 x3 M = some r → WX X 9 (eV r) 0 [some (.ref x0), some (.int x1), some (.int x2), some (.int x3), none, none, none, none, none] [] M := by
  intro x0 x1 x2 x3 M h
  exact seg_ok G P_RX12_ok T_X12_matches_ok hca (fun _ h => absurd h List.not_mem_nil) sw_X12_matches_ok krV_ok (kxN_ok (f := eV)) (List.forall_mem_cons.mpr ⟨kf_X12_matches_16 (ok_X12_matches_16 G hca F), fun _ h => absurd h List.not_mem_nil⟩) ((e_X12_matches_0 F (f_X12_matches_16 F F) x0 x1 x2 x3 M).symm.trans h)
theorem c_X12_matches {q : cL} (hst : q.1.stackTraces = false) {D : Nat} (hD : 0 ≤ D) (F : Nat) (a0 : Nat) (a1 : Int32) (a2 : Int32) (a3 : Int32) (M : cM) (r : cM) (h : f_X12_matches F a0 a1 a2 a3 M = some r) : CTx q yX12_matches (.code yX12_matches cX12_matches 9 none) D [.ref a0, .int a1, .int a2, .int a3] M (eV r) ∧ ∃ fs, M[a0]? = some (.inr (10, fs)) := by
  unfold f_X12_matches at h
  split at h
  · next hi => exact ⟨CTx_of (own := RX12) (rk := 5) hst (by decide +kernel) rfl (rfl) (Nat.le_of_ble_eq_true rfl) (fun X hX G => by subst hX; exact ok_X12_matches_0 G (ca_X12_matches_ok hst hD F) a0 a1 a2 a3 M h), isC_of hi⟩
  · cases h
def n_X12_matches {R' : Type} (f : Nat → Int32 → Int32 → Int32 → cM → Option (cM)) : cFn R' := fun as M κ κx => match as with
  | [.ref a0, .int a1, .int a2, .int a3] => (f a0 a1 a2 a3 M).bind fun p => κ none p
  | _ => none
theorem w_X12_matches : ∀ w ∈ [Cond.instanceMethod yX12_matches, .selects yX12_matches.cls yX12_matches yX12_matches, .initialized yX12_matches.cls, .code yX12_matches cX12_matches 9 none], w ∈ lw_good := List.forall_mem_cons.mpr ⟨lw_good_of (tb_ok 1472 (by decide +kernel)) rfl, List.forall_mem_cons.mpr ⟨lw_good_of (ts_ok 49 (by decide +kernel)) rfl, List.forall_mem_cons.mpr ⟨lw_good_of (tb_ok 11 (by decide +kernel)) rfl, List.forall_mem_cons.mpr ⟨lw_good_of (tb_ok 1473 (by decide +kernel)) rfl, fun _ h => absurd h List.not_mem_nil⟩⟩⟩⟩
theorem n_X12_matches_ok {R' : Type} {q : cL} {own : String} {d k : Nat} {f : Nat → Int32 → Int32 → Int32 → cM → Option (cM)} (hl : Cond.methodLink own k yX12_matches ∈ lw_good) (hf : ∀ a0 a1 a2 a3 M r, f a0 a1 a2 a3 M = some r → CTx q yX12_matches (.code yX12_matches cX12_matches 9 none) d [.ref a0, .int a1, .int a2, .int a3] M (eV r) ∧ ∃ fs, M[a0]? = some (.inr (10, fs))) : ceS q own d (3 * k + 1) (n_X12_matches (R' := R') f) := by
  intro as M κ κx r h
  unfold n_X12_matches at h
  split at h
  · obtain ⟨p, h1, h2⟩ := Option.bind_eq_some_iff.mp h
    obtain ⟨hc, fs, ha⟩ := hf _ _ _ _ _ _ h1
    exact ⟨eV p, fun _ => h2, fun hne => absurd rfl hne, Or.inr (Or.inl ⟨yX12_matches, cX12_matches, 9, none, k, 3, _, _, 10, TX12, 76, fs, rfl, rfl, hc, ha, rfl, List.forall_mem_cons.mpr ⟨hl, w_X12_matches⟩, ⟨rfl, by decide +kernel, by decide +kernel, by decide +kernel⟩, rfl, by decide⟩)⟩
  · cases h
