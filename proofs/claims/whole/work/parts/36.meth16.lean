/-! METHODS, part 16 (laid by wip/whole/tools/gen.py) -/
-- PatchbayScriptModel.finds(I)V
def T_X12_finds : List cRow := [(0, .aload_n 0, 1, 0), (1, .getfield 181, 4, 0), (4, .iload_n 1, 5, 0), (5, .iconst 0, 6, 0), (6, .iastore, 7, 0), (7, .iconst 1, 8, 0), (8, .istore_n 2, 9, 0), (9, .iconst 0, 10, 0), (10, .istore_n 3, 11, 0), (11, .iload_n 3, 12, 0), (12, .iload_n 1, 13, 0), (13, .if_icmp .ge 30, 16, 43), (16, .iload_n 2, 17, 0), (17, .ifCond .eq 18, 20, 35), (20, .aload_n 0, 21, 0), (21, .getfield 169, 24, 0), (24, .iload_n 3, 25, 0), (25, .iaload, 26, 0), (26, .bipush (-2), 28, 0), (28, .if_icmp .eq 7, 31, 35), (31, .iconst 1, 32, 0), (32, .goto 4, 35, 36), (35, .iconst 0, 36, 0), (36, .istore_n 2, 37, 0), (37, .iinc 3 1, 40, 0), (40, .goto (-29), 43, 11), (43, .iload_n 2, 44, 0), (44, .ifCond .ne 4, 47, 48), (47, .return_, 48, 0), (48, .iconst 0, 49, 0), (49, .istore_n 3, 50, 0), (50, .iload_n 3, 51, 0), (51, .aload_n 0, 52, 0), (52, .getfield 326, 55, 0), (55, .if_icmp .ge 30, 58, 85), (58, .aload_n 0, 59, 0), (59, .getfield 156, 62, 0), (62, .iload_n 3, 63, 0), (63, .iconst 0, 64, 0), (64, .iastore, 65, 0), (65, .aload_n 0, 66, 0), (66, .getfield 159, 69, 0), (69, .iload_n 3, 70, 0), (70, .iconst 0, 71, 0), (71, .iastore, 72, 0), (72, .aload_n 0, 73, 0), (73, .getfield 162, 76, 0), (76, .iload_n 3, 77, 0), (77, .iconst 0, 78, 0), (78, .iastore, 79, 0), (79, .iinc 3 1, 82, 0), (82, .goto (-32), 85, 50), (85, .aload_n 0, 86, 0), (86, .iconst 0, 87, 0), (87, .putfield 339, 90, 0), (90, .iconst 0, 91, 0), (91, .istore_n 3, 92, 0), (92, .iload_n 3, 93, 0), (93, .aload_n 0, 94, 0), (94, .getfield 329, 97, 0), (97, .if_icmp .ge 76, 100, 173), (100, .aload_n 0, 101, 0), (101, .aload_n 0, 102, 0), (102, .getfield 143, 105, 0), (105, .iload_n 3, 106, 0), (106, .iaload, 107, 0), (107, .iload_n 1, 108, 0), (108, .iconst 1, 109, 0), (109, .isub, 110, 0), (110, .invokevirtual 332, 113, 0), (113, .ifCond .eq 22, 116, 135), (116, .aload_n 0, 117, 0), (117, .aload_n 0, 118, 0), (118, .getfield 143, 121, 0), (121, .iload_n 3, 122, 0), (122, .iaload, 123, 0), (123, .aload_n 0, 124, 0), (124, .getfield 326, 127, 0), (127, .iconst 1, 128, 0), (128, .isub, 129, 0), (129, .invokevirtual 342, 132, 0), (132, .goto 4, 135, 136), (135, .iconst (-1), 136, 0), (136, .istore 4, 138, 0), (138, .iload 4, 140, 0), (140, .iconst (-1), 141, 0), (141, .if_icmp .eq 26, 144, 167), (144, .aload_n 0, 145, 0), (145, .getfield 156, 148, 0), (148, .iload 4, 150, 0), (150, .dup2, 151, 0), (151, .iaload, 152, 0), (152, .iconst 1, 153, 0), (153, .aload_n 0, 154, 0), (154, .getfield 140, 157, 0), (157, .aload_n 0, 158, 0), (158, .getfield 143, 161, 0), (161, .iload_n 3, 162, 0), (162, .iaload, 163, 0), (163, .iaload, 164, 0), (164, .ishl, 165, 0), (165, .ior, 166, 0), (166, .iastore, 167, 0), (167, .iinc 3 1, 170, 0), (170, .goto (-78), 173, 92), (173, .iconst 0, 174, 0), (174, .istore_n 3, 175, 0), (175, .iload_n 3, 176, 0), (176, .aload_n 0, 177, 0), (177, .getfield 326, 180, 0), (180, .if_icmp .ge 116, 183, 296), (183, .iload_n 1, 184, 0), (184, .iconst 1, 185, 0), (185, .if_icmp .le 111, 188, 296), (188, .iconst 0, 189, 0), (189, .istore 4, 191, 0), (191, .iload 4, 193, 0), (193, .aload_n 0, 194, 0), (194, .getfield 329, 197, 0), (197, .if_icmp .ge 93, 200, 290), (200, .aload_n 0, 201, 0), (201, .getfield 156, 204, 0), (204, .iload_n 3, 205, 0), (205, .iaload, 206, 0), (206, .ifCond .eq 84, 209, 290), (209, .aload_n 0, 210, 0), (210, .aload_n 0, 211, 0), (211, .getfield 143, 214, 0), (214, .iload 4, 216, 0), (216, .iaload, 217, 0), (217, .iload_n 1, 218, 0), (218, .iconst 2, 219, 0), (219, .isub, 220, 0), (220, .invokevirtual 332, 223, 0), (223, .ifCond .eq 18, 226, 241), (226, .aload_n 0, 227, 0), (227, .aload_n 0, 228, 0), (228, .getfield 143, 231, 0), (231, .iload 4, 233, 0), (233, .iaload, 234, 0), (234, .iload_n 3, 235, 0), (235, .invokevirtual 342, 238, 0), (238, .goto 4, 241, 242), (241, .iconst (-1), 242, 0), (242, .istore 5, 244, 0), (244, .iload 5, 246, 0), (246, .iconst (-1), 247, 0), (247, .if_icmp .eq 37, 250, 284), (250, .aload_n 0, 251, 0), (251, .getfield 159, 254, 0), (254, .iload 5, 256, 0), (256, .dup2, 257, 0), (257, .iaload, 258, 0), (258, .aload_n 0, 259, 0), (259, .getfield 156, 262, 0), (262, .iload_n 3, 263, 0), (263, .iaload, 264, 0), (264, .i2l, 265, 0), (265, .aload_n 0, 266, 0), (266, .getfield 140, 269, 0), (269, .aload_n 0, 270, 0), (270, .getfield 143, 273, 0), (273, .iload 4, 275, 0), (275, .iaload, 276, 0), (276, .iaload, 277, 0), (277, .lshl, 278, 0), (278, .bipush 8, 280, 0), (280, .lshr, 281, 0), (281, .l2i, 282, 0), (282, .ior, 283, 0), (283, .iastore, 284, 0), (284, .iinc 4 1, 287, 0), (287, .goto (-96), 290, 191), (290, .iinc 3 1, 293, 0), (293, .goto (-118), 296, 175), (296, .aload_n 0, 297, 0), (297, .iconst 0, 298, 0), (298, .iconst 0, 299, 0), (299, .invokevirtual 345, 302, 0), (302, .iload_n 1, 303, 0), (303, .iconst 3, 304, 0), (304, .if_icmp .ne 12, 307, 316), (307, .aload_n 0, 308, 0), (308, .iconst 0, 309, 0), (309, .iconst 0, 310, 0), (310, .invokevirtual 349, 313, 0), (313, .goto 16, 316, 329), (316, .iload_n 1, 317, 0), (317, .iconst 4, 318, 0), (318, .if_icmp .ne 10, 321, 328), (321, .aload_n 0, 322, 0), (322, .invokevirtual 353, 325, 0), (325, .goto 4, 328, 329), (328, .lconst 0, 329, 0), (329, .lstore_n 3, 330, 0), (330, .iconst 4, 331, 0), (331, .istore 5, 333, 0), (333, .iload 5, 335, 0), (335, .bipush 64, 337, 0), (337, .if_icmp .gt 81, 340, 418), (340, .aload_n 0, 341, 0), (341, .getfield 181, 344, 0), (344, .iload_n 1, 345, 0), (345, .iaload, 346, 0), (346, .iconst 5, 347, 0), (347, .if_icmp .ge 71, 350, 418), (350, .iload_n 1, 351, 0), (351, .iconst 3, 352, 0), (352, .if_icmp .ne 11, 355, 363), (355, .iload 5, 357, 0), (357, .bipush 12, 359, 0), (359, .isub, 360, 0), (360, .goto 8, 363, 368), (363, .iload 5, 365, 0), (365, .bipush 16, 367, 0), (367, .isub, 368, 0), (368, .istore 6, 370, 0), (370, .iload_n 1, 371, 0), (371, .iconst 3, 372, 0), (372, .if_icmp .ge 17, 375, 389), (375, .aload_n 0, 376, 0), (376, .iload_n 1, 377, 0), (377, .iconst 0, 378, 0), (378, .iload 5, 380, 0), (380, .invokevirtual 357, 383, 0), (383, .ifCond .eq 29, 386, 412), (386, .goto 19, 389, 405), (389, .iload 6, 391, 0), (391, .ifCond .lt 21, 394, 412), (394, .lload_n 3, 395, 0), (395, .iload 6, 397, 0), (397, .lshr, 398, 0), (398, .lconst 1, 399, 0), (399, .land, 400, 0), (400, .lconst 1, 401, 0), (401, .lcmp, 402, 0), (402, .ifCond .ne 10, 405, 412), (405, .aload_n 0, 406, 0), (406, .iload_n 1, 407, 0), (407, .iload 5, 409, 0), (409, .invokevirtual 360, 412, 0), (412, .iinc 5 1, 415, 0), (415, .goto (-82), 418, 333), (418, .return_, 419, 0)]
theorem T_X12_finds_ok : T_X12_finds.all (rowB cX12_finds) = true := by decide +kernel
def th_X12_finds : List (Nat × Nat) := []
def sw_X12_finds : List (Nat × (List (Int32 × Nat) × Nat)) := []
theorem sw_X12_finds_ok : ∀ q ∈ sw_X12_finds, swS cX12_finds q := fun _ h => absurd h List.not_mem_nil
def na_X12_finds : List (Nat × Nat) := [(997, 3), (1027, 3), (1036, 3), (1048, 3), (1060, 1), (1072, 4), (1081, 3)]
def ca_X12_finds {R' : Type} (F : Nat) : List (Nat × cFn R') := [(997, n_X12_isAllowed (f_X12_isAllowed F)), (1027, n_X12_ahead (f_X12_ahead F)), (1036, n_X12_goesTo (f_X12_goesTo F)), (1048, n_X12_threeFrom (f_X12_threeFrom F)), (1060, n_X12_fours (f_X12_fours F)), (1072, n_X12_can (f_X12_can F)), (1081, n_X12_goes (f_X12_goes F))]
theorem ca_X12_finds_ok {R' : Type} {q : cL} (hst : q.1.stackTraces = false) {D : Nat} (hD : 3 ≤ D) (F : Nat) : ∀ x ∈ (ca_X12_finds (R' := R') F), 1 ≤ D ∧ ceS q RX12 (D - 1) x.1 x.2 := List.forall_mem_cons.mpr ⟨⟨by omega, n_X12_isAllowed_ok (k := 332) (lw_good_of (tb_ok 1500 (by decide +kernel)) rfl) (fun a0 a1 a2 M r h => c_X12_isAllowed hst (by omega) F a0 a1 a2 M r h)⟩, List.forall_mem_cons.mpr ⟨⟨by omega, n_X12_ahead_ok (k := 342) (lw_good_of (tb_ok 1504 (by decide +kernel)) rfl) (fun a0 a1 a2 M r h => c_X12_ahead hst (by omega) F a0 a1 a2 M r h)⟩, List.forall_mem_cons.mpr ⟨⟨by omega, n_X12_goesTo_ok (k := 345) (lw_good_of (tb_ok 1508 (by decide +kernel)) rfl) (fun a0 a1 a2 M r h => c_X12_goesTo hst (by omega) F a0 a1 a2 M r h)⟩, List.forall_mem_cons.mpr ⟨⟨by omega, n_X12_threeFrom_ok (k := 349) (lw_good_of (tb_ok 1512 (by decide +kernel)) rfl) (fun a0 a1 a2 M r h => c_X12_threeFrom hst (by omega) F a0 a1 a2 M r h)⟩, List.forall_mem_cons.mpr ⟨⟨by omega, n_X12_fours_ok (k := 353) (lw_good_of (tb_ok 1520 (by decide +kernel)) rfl) (fun a0 M r h => c_X12_fours hst (by omega) F a0 M r h)⟩, List.forall_mem_cons.mpr ⟨⟨by omega, n_X12_can_ok (k := 357) (lw_good_of (tb_ok 1524 (by decide +kernel)) rfl) (fun a0 a1 a2 a3 M r h => c_X12_can hst (by omega) F a0 a1 a2 a3 M r h)⟩, List.forall_mem_cons.mpr ⟨⟨by omega, n_X12_goes_ok (k := 360) (lw_good_of (tb_ok 1528 (by decide +kernel)) rfl) (fun a0 a1 a2 M r h => c_X12_goes hst (by omega) F a0 a1 a2 M r h)⟩, fun _ h => absurd h List.not_mem_nil⟩⟩⟩⟩⟩⟩⟩
def kd_X12_finds_11 (g : Nat → Int32 → Int32 → Int32 → cM → Option (cM)) : cKf (cM) := fun vs st M => (lR vs 0).bind fun x0 => (lI vs 1).bind fun x1 => (lI vs 2).bind fun x2 => (lI vs 3).bind fun x3 => match st with
  | [] => g x0 x1 x2 x3 M
  | _ => none
theorem kf_X12_finds_11 {X : cCtx} {o : cO} {r : cM} {g : Nat → Int32 → Int32 → Int32 → cM → Option (cM)} (hg : ∀ x0 x1 x2 x3 M, g x0 x1 x2 x3 M = some r → WX X 7 o 11 [some (.ref x0), some (.int x1), some (.int x2), some (.int x3), none, none, none] [] M) : ∀ vs st M, kd_X12_finds_11 g vs st M = some r → WX X 7 o 11 vs st M := by
  intro vs st M h
  unfold kd_X12_finds_11 at h
  obtain ⟨x0, h0, h⟩ := Option.bind_eq_some_iff.mp h
  obtain ⟨x1, h1, h⟩ := Option.bind_eq_some_iff.mp h
  obtain ⟨x2, h2, h⟩ := Option.bind_eq_some_iff.mp h
  obtain ⟨x3, h3, h⟩ := Option.bind_eq_some_iff.mp h
  split at h
  · exact WX_weak (hg _ _ _ _ _ h) rfl ⟨lR_of h0, lI_of h1, lI_of h2, lI_of h3, trivial⟩
  · cases h
def kd_X12_finds_50 (g : Nat → Int32 → Int32 → cM → Option (cM)) : cKf (cM) := fun vs st M => (lR vs 0).bind fun x0 => (lI vs 1).bind fun x1 => (lI vs 3).bind fun x3 => match st with
  | [] => g x0 x1 x3 M
  | _ => none
theorem kf_X12_finds_50 {X : cCtx} {o : cO} {r : cM} {g : Nat → Int32 → Int32 → cM → Option (cM)} (hg : ∀ x0 x1 x3 M, g x0 x1 x3 M = some r → WX X 7 o 50 [some (.ref x0), some (.int x1), none, some (.int x3), none, none, none] [] M) : ∀ vs st M, kd_X12_finds_50 g vs st M = some r → WX X 7 o 50 vs st M := by
  intro vs st M h
  unfold kd_X12_finds_50 at h
  obtain ⟨x0, h0, h⟩ := Option.bind_eq_some_iff.mp h
  obtain ⟨x1, h1, h⟩ := Option.bind_eq_some_iff.mp h
  obtain ⟨x3, h3, h⟩ := Option.bind_eq_some_iff.mp h
  split at h
  · exact WX_weak (hg _ _ _ _ h) rfl ⟨lR_of h0, lI_of h1, lI_of h3, trivial⟩
  · cases h
def kd_X12_finds_92 (g : Nat → Int32 → Int32 → cM → Option (cM)) : cKf (cM) := fun vs st M => (lR vs 0).bind fun x0 => (lI vs 1).bind fun x1 => (lI vs 3).bind fun x3 => match st with
  | [] => g x0 x1 x3 M
  | _ => none
theorem kf_X12_finds_92 {X : cCtx} {o : cO} {r : cM} {g : Nat → Int32 → Int32 → cM → Option (cM)} (hg : ∀ x0 x1 x3 M, g x0 x1 x3 M = some r → WX X 7 o 92 [some (.ref x0), some (.int x1), none, some (.int x3), none, none, none] [] M) : ∀ vs st M, kd_X12_finds_92 g vs st M = some r → WX X 7 o 92 vs st M := by
  intro vs st M h
  unfold kd_X12_finds_92 at h
  obtain ⟨x0, h0, h⟩ := Option.bind_eq_some_iff.mp h
  obtain ⟨x1, h1, h⟩ := Option.bind_eq_some_iff.mp h
  obtain ⟨x3, h3, h⟩ := Option.bind_eq_some_iff.mp h
  split at h
  · exact WX_weak (hg _ _ _ _ h) rfl ⟨lR_of h0, lI_of h1, lI_of h3, trivial⟩
  · cases h
def kd_X12_finds_136 (g : Nat → Int32 → Int32 → Int32 → cM → Option (cM)) : cKf (cM) := fun vs st M => (lR vs 0).bind fun x0 => (lI vs 1).bind fun x1 => (lI vs 3).bind fun x3 => match st with
  | [.int s0] => g x0 x1 x3 s0 M
  | _ => none
theorem kf_X12_finds_136 {X : cCtx} {o : cO} {r : cM} {g : Nat → Int32 → Int32 → Int32 → cM → Option (cM)} (hg : ∀ x0 x1 x3 s0 M, g x0 x1 x3 s0 M = some r → WX X 7 o 136 [some (.ref x0), some (.int x1), none, some (.int x3), none, none, none] [.int s0] M) : ∀ vs st M, kd_X12_finds_136 g vs st M = some r → WX X 7 o 136 vs st M := by
  intro vs st M h
  unfold kd_X12_finds_136 at h
  obtain ⟨x0, h0, h⟩ := Option.bind_eq_some_iff.mp h
  obtain ⟨x1, h1, h⟩ := Option.bind_eq_some_iff.mp h
  obtain ⟨x3, h3, h⟩ := Option.bind_eq_some_iff.mp h
  split at h
  · exact WX_weak (hg _ _ _ _ _ h) rfl ⟨lR_of h0, lI_of h1, lI_of h3, trivial⟩
  · cases h
def kd_X12_finds_175 (g : Nat → Int32 → Int32 → cM → Option (cM)) : cKf (cM) := fun vs st M => (lR vs 0).bind fun x0 => (lI vs 1).bind fun x1 => (lI vs 3).bind fun x3 => match st with
  | [] => g x0 x1 x3 M
  | _ => none
theorem kf_X12_finds_175 {X : cCtx} {o : cO} {r : cM} {g : Nat → Int32 → Int32 → cM → Option (cM)} (hg : ∀ x0 x1 x3 M, g x0 x1 x3 M = some r → WX X 7 o 175 [some (.ref x0), some (.int x1), none, some (.int x3), none, none, none] [] M) : ∀ vs st M, kd_X12_finds_175 g vs st M = some r → WX X 7 o 175 vs st M := by
  intro vs st M h
  unfold kd_X12_finds_175 at h
  obtain ⟨x0, h0, h⟩ := Option.bind_eq_some_iff.mp h
  obtain ⟨x1, h1, h⟩ := Option.bind_eq_some_iff.mp h
  obtain ⟨x3, h3, h⟩ := Option.bind_eq_some_iff.mp h
  split at h
  · exact WX_weak (hg _ _ _ _ h) rfl ⟨lR_of h0, lI_of h1, lI_of h3, trivial⟩
  · cases h
def kd_X12_finds_191 (g : Nat → Int32 → Int32 → Int32 → cM → Option (cM)) : cKf (cM) := fun vs st M => (lR vs 0).bind fun x0 => (lI vs 1).bind fun x1 => (lI vs 3).bind fun x3 => (lI vs 4).bind fun x4 => match st with
  | [] => g x0 x1 x3 x4 M
  | _ => none
theorem kf_X12_finds_191 {X : cCtx} {o : cO} {r : cM} {g : Nat → Int32 → Int32 → Int32 → cM → Option (cM)} (hg : ∀ x0 x1 x3 x4 M, g x0 x1 x3 x4 M = some r → WX X 7 o 191 [some (.ref x0), some (.int x1), none, some (.int x3), some (.int x4), none, none] [] M) : ∀ vs st M, kd_X12_finds_191 g vs st M = some r → WX X 7 o 191 vs st M := by
  intro vs st M h
  unfold kd_X12_finds_191 at h
  obtain ⟨x0, h0, h⟩ := Option.bind_eq_some_iff.mp h
  obtain ⟨x1, h1, h⟩ := Option.bind_eq_some_iff.mp h
  obtain ⟨x3, h3, h⟩ := Option.bind_eq_some_iff.mp h
  obtain ⟨x4, h4, h⟩ := Option.bind_eq_some_iff.mp h
  split at h
  · exact WX_weak (hg _ _ _ _ _ h) rfl ⟨lR_of h0, lI_of h1, lI_of h3, lI_of h4, trivial⟩
  · cases h
def kd_X12_finds_242 (g : Nat → Int32 → Int32 → Int32 → Int32 → cM → Option (cM)) : cKf (cM) := fun vs st M => (lR vs 0).bind fun x0 => (lI vs 1).bind fun x1 => (lI vs 3).bind fun x3 => (lI vs 4).bind fun x4 => match st with
  | [.int s0] => g x0 x1 x3 x4 s0 M
  | _ => none
theorem kf_X12_finds_242 {X : cCtx} {o : cO} {r : cM} {g : Nat → Int32 → Int32 → Int32 → Int32 → cM → Option (cM)} (hg : ∀ x0 x1 x3 x4 s0 M, g x0 x1 x3 x4 s0 M = some r → WX X 7 o 242 [some (.ref x0), some (.int x1), none, some (.int x3), some (.int x4), none, none] [.int s0] M) : ∀ vs st M, kd_X12_finds_242 g vs st M = some r → WX X 7 o 242 vs st M := by
  intro vs st M h
  unfold kd_X12_finds_242 at h
  obtain ⟨x0, h0, h⟩ := Option.bind_eq_some_iff.mp h
  obtain ⟨x1, h1, h⟩ := Option.bind_eq_some_iff.mp h
  obtain ⟨x3, h3, h⟩ := Option.bind_eq_some_iff.mp h
  obtain ⟨x4, h4, h⟩ := Option.bind_eq_some_iff.mp h
  split at h
  · exact WX_weak (hg _ _ _ _ _ _ h) rfl ⟨lR_of h0, lI_of h1, lI_of h3, lI_of h4, trivial⟩
  · cases h
def kd_X12_finds_296 (g : Nat → Int32 → cM → Option (cM)) : cKf (cM) := fun vs st M => (lR vs 0).bind fun x0 => (lI vs 1).bind fun x1 => match st with
  | [] => g x0 x1 M
  | _ => none
theorem kf_X12_finds_296 {X : cCtx} {o : cO} {r : cM} {g : Nat → Int32 → cM → Option (cM)} (hg : ∀ x0 x1 M, g x0 x1 M = some r → WX X 7 o 296 [some (.ref x0), some (.int x1), none, none, none, none, none] [] M) : ∀ vs st M, kd_X12_finds_296 g vs st M = some r → WX X 7 o 296 vs st M := by
  intro vs st M h
  unfold kd_X12_finds_296 at h
  obtain ⟨x0, h0, h⟩ := Option.bind_eq_some_iff.mp h
  obtain ⟨x1, h1, h⟩ := Option.bind_eq_some_iff.mp h
  split at h
  · exact WX_weak (hg _ _ _ h) rfl ⟨lR_of h0, lI_of h1, trivial⟩
  · cases h
def kd_X12_finds_333 (g : Nat → Int32 → Int64 → Int32 → cM → Option (cM)) : cKf (cM) := fun vs st M => (lR vs 0).bind fun x0 => (lI vs 1).bind fun x1 => (lJ vs 3).bind fun x3 => (lI vs 5).bind fun x5 => match st with
  | [] => g x0 x1 x3 x5 M
  | _ => none
theorem kf_X12_finds_333 {X : cCtx} {o : cO} {r : cM} {g : Nat → Int32 → Int64 → Int32 → cM → Option (cM)} (hg : ∀ x0 x1 x3 x5 M, g x0 x1 x3 x5 M = some r → WX X 7 o 333 [some (.ref x0), some (.int x1), none, some (.long x3), none, some (.int x5), none] [] M) : ∀ vs st M, kd_X12_finds_333 g vs st M = some r → WX X 7 o 333 vs st M := by
  intro vs st M h
  unfold kd_X12_finds_333 at h
  obtain ⟨x0, h0, h⟩ := Option.bind_eq_some_iff.mp h
  obtain ⟨x1, h1, h⟩ := Option.bind_eq_some_iff.mp h
  obtain ⟨x3, h3, h⟩ := Option.bind_eq_some_iff.mp h
  obtain ⟨x5, h5, h⟩ := Option.bind_eq_some_iff.mp h
  split at h
  · exact WX_weak (hg _ _ _ _ _ h) rfl ⟨lR_of h0, lI_of h1, lJ_of h3, lI_of h5, trivial⟩
  · cases h
def kd_X12_finds_368 (g : Nat → Int32 → Int64 → Int32 → Int32 → cM → Option (cM)) : cKf (cM) := fun vs st M => (lR vs 0).bind fun x0 => (lI vs 1).bind fun x1 => (lJ vs 3).bind fun x3 => (lI vs 5).bind fun x5 => match st with
  | [.int s0] => g x0 x1 x3 x5 s0 M
  | _ => none
theorem kf_X12_finds_368 {X : cCtx} {o : cO} {r : cM} {g : Nat → Int32 → Int64 → Int32 → Int32 → cM → Option (cM)} (hg : ∀ x0 x1 x3 x5 s0 M, g x0 x1 x3 x5 s0 M = some r → WX X 7 o 368 [some (.ref x0), some (.int x1), none, some (.long x3), none, some (.int x5), none] [.int s0] M) : ∀ vs st M, kd_X12_finds_368 g vs st M = some r → WX X 7 o 368 vs st M := by
  intro vs st M h
  unfold kd_X12_finds_368 at h
  obtain ⟨x0, h0, h⟩ := Option.bind_eq_some_iff.mp h
  obtain ⟨x1, h1, h⟩ := Option.bind_eq_some_iff.mp h
  obtain ⟨x3, h3, h⟩ := Option.bind_eq_some_iff.mp h
  obtain ⟨x5, h5, h⟩ := Option.bind_eq_some_iff.mp h
  split at h
  · exact WX_weak (hg _ _ _ _ _ _ h) rfl ⟨lR_of h0, lI_of h1, lJ_of h3, lI_of h5, trivial⟩
  · cases h
set_option maxRecDepth 20000 in
theorem e_X12_finds_368 (F : Nat) (t333 : Nat → Int32 → Int64 → Int32 → cM → Option (cM)) (x0 : Nat) (x1 : Int32) (x3 : Int64) (x5 : Int32) (s0 : Int32) (M : cM) : b_X12_finds_368 F t333 x0 x1 x3 x5 s0 M = run T_X12_finds P_RX12 false 5 (naL na_X12_finds) (caL (ca_X12_finds F)) (lkN th_X12_finds) (lkN sw_X12_finds) krV kxN (spL [333]) (KL [(333, kd_X12_finds_333 t333)]) 247 368 [some (.ref x0), some (.int x1), none, some (.long x3), none, some (.int x5), none] [.int s0] M := rfl
theorem ok_X12_finds_368 {X : cCtx} {D : Nat} {r : cM} (G : FX X 7 (eV r) cX12_finds RX12 5 D) {F : Nat} (hca : ∀ x ∈ (ca_X12_finds (R' := cM) F), 1 ≤ D ∧ ceS X.1 RX12 (D - 1) x.1 x.2) (k333 : Nat → Int32 → Int64 → Int32 → cM → Option (cM)) (hk333 : ∀ x0 x1 x3 x5 M, k333 x0 x1 x3 x5 M = some r → WX X 7 (eV r) 333 [some (.ref x0), some (.int x1), none, some (.long x3), none, some (.int x5), none] [] M) : ∀ x0 x1 x3 x5 s0 M, f_X12_finds_368 F k333 x0 x1 x3 x5 s0 M = some r → WX X 7 (eV r) 368 [some (.ref x0), some (.int x1), none, some (.long x3), none, some (.int x5), none] [.int s0] M := by
  intro x0 x1 x3 x5 s0 M h
  exact seg_ok G P_RX12_ok T_X12_finds_ok hca (fun _ h => absurd h List.not_mem_nil) sw_X12_finds_ok krV_ok (kxN_ok (f := eV)) (List.forall_mem_cons.mpr ⟨kf_X12_finds_333 (hk333), fun _ h => absurd h List.not_mem_nil⟩) ((e_X12_finds_368 F (k333) x0 x1 x3 x5 s0 M).symm.trans h)
set_option maxRecDepth 20000 in
theorem e_X12_finds_333 (F : Nat) (t368 : Nat → Int32 → Int64 → Int32 → Int32 → cM → Option (cM)) (x0 : Nat) (x1 : Int32) (x3 : Int64) (x5 : Int32) (M : cM) : b_X12_finds_333 F t368 x0 x1 x3 x5 M = run T_X12_finds P_RX12 false 5 (naL na_X12_finds) (caL (ca_X12_finds F)) (lkN th_X12_finds) (lkN sw_X12_finds) krV kxN (spL [368]) (KL [(368, kd_X12_finds_368 t368)]) 247 333 [some (.ref x0), some (.int x1), none, some (.long x3), none, some (.int x5), none] [] M := rfl
theorem ok_X12_finds_333 {X : cCtx} {D : Nat} {r : cM} (G : FX X 7 (eV r) cX12_finds RX12 5 D) {F : Nat} (hca : ∀ x ∈ (ca_X12_finds (R' := cM) F), 1 ≤ D ∧ ceS X.1 RX12 (D - 1) x.1 x.2) (n : Nat) : ∀ x0 x1 x3 x5 M, f_X12_finds_333 F n x0 x1 x3 x5 M = some r → WX X 7 (eV r) 333 [some (.ref x0), some (.int x1), none, some (.long x3), none, some (.int x5), none] [] M := by
  induction n with
  | zero => intro x0 x1 x3 x5 M h; cases h
  | succ n ih =>
    intro x0 x1 x3 x5 M h
    exact seg_ok G P_RX12_ok T_X12_finds_ok hca (fun _ h => absurd h List.not_mem_nil) sw_X12_finds_ok krV_ok (kxN_ok (f := eV)) (List.forall_mem_cons.mpr ⟨kf_X12_finds_368 (ok_X12_finds_368 G hca (f_X12_finds_333 F n) ih), fun _ h => absurd h List.not_mem_nil⟩) ((e_X12_finds_333 F (f_X12_finds_368 F (f_X12_finds_333 F n)) x0 x1 x3 x5 M).symm.trans h)
set_option maxRecDepth 20000 in
theorem e_X12_finds_296 (F : Nat) (t333 : Nat → Int32 → Int64 → Int32 → cM → Option (cM)) (x0 : Nat) (x1 : Int32) (M : cM) : b_X12_finds_296 F t333 x0 x1 M = run T_X12_finds P_RX12 false 5 (naL na_X12_finds) (caL (ca_X12_finds F)) (lkN th_X12_finds) (lkN sw_X12_finds) krV kxN (spL [333]) (KL [(333, kd_X12_finds_333 t333)]) 247 296 [some (.ref x0), some (.int x1), none, none, none, none, none] [] M := rfl
theorem ok_X12_finds_296 {X : cCtx} {D : Nat} {r : cM} (G : FX X 7 (eV r) cX12_finds RX12 5 D) {F : Nat} (hca : ∀ x ∈ (ca_X12_finds (R' := cM) F), 1 ≤ D ∧ ceS X.1 RX12 (D - 1) x.1 x.2) : ∀ x0 x1 M, f_X12_finds_296 F x0 x1 M = some r → WX X 7 (eV r) 296 [some (.ref x0), some (.int x1), none, none, none, none, none] [] M := by
  intro x0 x1 M h
  exact seg_ok G P_RX12_ok T_X12_finds_ok hca (fun _ h => absurd h List.not_mem_nil) sw_X12_finds_ok krV_ok (kxN_ok (f := eV)) (List.forall_mem_cons.mpr ⟨kf_X12_finds_333 (ok_X12_finds_333 G hca F), fun _ h => absurd h List.not_mem_nil⟩) ((e_X12_finds_296 F (f_X12_finds_333 F F) x0 x1 M).symm.trans h)
set_option maxRecDepth 20000 in
theorem e_X12_finds_242 (F : Nat) (t191 : Nat → Int32 → Int32 → Int32 → cM → Option (cM)) (x0 : Nat) (x1 : Int32) (x3 : Int32) (x4 : Int32) (s0 : Int32) (M : cM) : b_X12_finds_242 F t191 x0 x1 x3 x4 s0 M = run T_X12_finds P_RX12 false 5 (naL na_X12_finds) (caL (ca_X12_finds F)) (lkN th_X12_finds) (lkN sw_X12_finds) krV kxN (spL [191]) (KL [(191, kd_X12_finds_191 t191)]) 247 242 [some (.ref x0), some (.int x1), none, some (.int x3), some (.int x4), none, none] [.int s0] M := rfl
theorem ok_X12_finds_242 {X : cCtx} {D : Nat} {r : cM} (G : FX X 7 (eV r) cX12_finds RX12 5 D) {F : Nat} (hca : ∀ x ∈ (ca_X12_finds (R' := cM) F), 1 ≤ D ∧ ceS X.1 RX12 (D - 1) x.1 x.2) (k175 : Nat → Int32 → Int32 → cM → Option (cM)) (k191 : Nat → Int32 → Int32 → Int32 → cM → Option (cM)) (hk175 : ∀ x0 x1 x3 M, k175 x0 x1 x3 M = some r → WX X 7 (eV r) 175 [some (.ref x0), some (.int x1), none, some (.int x3), none, none, none] [] M) (hk191 : ∀ x0 x1 x3 x4 M, k191 x0 x1 x3 x4 M = some r → WX X 7 (eV r) 191 [some (.ref x0), some (.int x1), none, some (.int x3), some (.int x4), none, none] [] M) : ∀ x0 x1 x3 x4 s0 M, f_X12_finds_242 F k175 k191 x0 x1 x3 x4 s0 M = some r → WX X 7 (eV r) 242 [some (.ref x0), some (.int x1), none, some (.int x3), some (.int x4), none, none] [.int s0] M := by
  intro x0 x1 x3 x4 s0 M h
  exact seg_ok G P_RX12_ok T_X12_finds_ok hca (fun _ h => absurd h List.not_mem_nil) sw_X12_finds_ok krV_ok (kxN_ok (f := eV)) (List.forall_mem_cons.mpr ⟨kf_X12_finds_191 (hk191), fun _ h => absurd h List.not_mem_nil⟩) ((e_X12_finds_242 F (k191) x0 x1 x3 x4 s0 M).symm.trans h)
set_option maxRecDepth 20000 in
theorem e_X12_finds_191 (F : Nat) (t175 : Nat → Int32 → Int32 → cM → Option (cM)) (t242 : Nat → Int32 → Int32 → Int32 → Int32 → cM → Option (cM)) (x0 : Nat) (x1 : Int32) (x3 : Int32) (x4 : Int32) (M : cM) : b_X12_finds_191 F t175 t242 x0 x1 x3 x4 M = run T_X12_finds P_RX12 false 5 (naL na_X12_finds) (caL (ca_X12_finds F)) (lkN th_X12_finds) (lkN sw_X12_finds) krV kxN (spL [175, 242]) (KL [(175, kd_X12_finds_175 t175), (242, kd_X12_finds_242 t242)]) 247 191 [some (.ref x0), some (.int x1), none, some (.int x3), some (.int x4), none, none] [] M := rfl
theorem ok_X12_finds_191 {X : cCtx} {D : Nat} {r : cM} (G : FX X 7 (eV r) cX12_finds RX12 5 D) {F : Nat} (hca : ∀ x ∈ (ca_X12_finds (R' := cM) F), 1 ≤ D ∧ ceS X.1 RX12 (D - 1) x.1 x.2) (k175 : Nat → Int32 → Int32 → cM → Option (cM)) (hk175 : ∀ x0 x1 x3 M, k175 x0 x1 x3 M = some r → WX X 7 (eV r) 175 [some (.ref x0), some (.int x1), none, some (.int x3), none, none, none] [] M) (n : Nat) : ∀ x0 x1 x3 x4 M, f_X12_finds_191 F k175 n x0 x1 x3 x4 M = some r → WX X 7 (eV r) 191 [some (.ref x0), some (.int x1), none, some (.int x3), some (.int x4), none, none] [] M := by
  induction n with
  | zero => intro x0 x1 x3 x4 M h; cases h
  | succ n ih =>
    intro x0 x1 x3 x4 M h
    exact seg_ok G P_RX12_ok T_X12_finds_ok hca (fun _ h => absurd h List.not_mem_nil) sw_X12_finds_ok krV_ok (kxN_ok (f := eV)) (List.forall_mem_cons.mpr ⟨kf_X12_finds_175 (hk175), List.forall_mem_cons.mpr ⟨kf_X12_finds_242 (ok_X12_finds_242 G hca k175 (f_X12_finds_191 F k175 n) hk175 ih), fun _ h => absurd h List.not_mem_nil⟩⟩) ((e_X12_finds_191 F (k175) (f_X12_finds_242 F k175 (f_X12_finds_191 F k175 n)) x0 x1 x3 x4 M).symm.trans h)
set_option maxRecDepth 20000 in
theorem e_X12_finds_175 (F : Nat) (t191 : Nat → Int32 → Int32 → Int32 → cM → Option (cM)) (t296 : Nat → Int32 → cM → Option (cM)) (x0 : Nat) (x1 : Int32) (x3 : Int32) (M : cM) : b_X12_finds_175 F t191 t296 x0 x1 x3 M = run T_X12_finds P_RX12 false 5 (naL na_X12_finds) (caL (ca_X12_finds F)) (lkN th_X12_finds) (lkN sw_X12_finds) krV kxN (spL [191, 296]) (KL [(191, kd_X12_finds_191 t191), (296, kd_X12_finds_296 t296)]) 247 175 [some (.ref x0), some (.int x1), none, some (.int x3), none, none, none] [] M := rfl
theorem ok_X12_finds_175 {X : cCtx} {D : Nat} {r : cM} (G : FX X 7 (eV r) cX12_finds RX12 5 D) {F : Nat} (hca : ∀ x ∈ (ca_X12_finds (R' := cM) F), 1 ≤ D ∧ ceS X.1 RX12 (D - 1) x.1 x.2) (n : Nat) : ∀ x0 x1 x3 M, f_X12_finds_175 F n x0 x1 x3 M = some r → WX X 7 (eV r) 175 [some (.ref x0), some (.int x1), none, some (.int x3), none, none, none] [] M := by
  induction n with
  | zero => intro x0 x1 x3 M h; cases h
  | succ n ih =>
    intro x0 x1 x3 M h
    exact seg_ok G P_RX12_ok T_X12_finds_ok hca (fun _ h => absurd h List.not_mem_nil) sw_X12_finds_ok krV_ok (kxN_ok (f := eV)) (List.forall_mem_cons.mpr ⟨kf_X12_finds_191 (ok_X12_finds_191 G hca (f_X12_finds_175 F n) ih F), List.forall_mem_cons.mpr ⟨kf_X12_finds_296 (ok_X12_finds_296 G hca), fun _ h => absurd h List.not_mem_nil⟩⟩) ((e_X12_finds_175 F (f_X12_finds_191 F (f_X12_finds_175 F n) F) (f_X12_finds_296 F) x0 x1 x3 M).symm.trans h)
set_option maxRecDepth 20000 in
theorem e_X12_finds_136 (F : Nat) (t92 : Nat → Int32 → Int32 → cM → Option (cM)) (x0 : Nat) (x1 : Int32) (x3 : Int32) (s0 : Int32) (M : cM) : b_X12_finds_136 F t92 x0 x1 x3 s0 M = run T_X12_finds P_RX12 false 5 (naL na_X12_finds) (caL (ca_X12_finds F)) (lkN th_X12_finds) (lkN sw_X12_finds) krV kxN (spL [92]) (KL [(92, kd_X12_finds_92 t92)]) 247 136 [some (.ref x0), some (.int x1), none, some (.int x3), none, none, none] [.int s0] M := rfl
theorem ok_X12_finds_136 {X : cCtx} {D : Nat} {r : cM} (G : FX X 7 (eV r) cX12_finds RX12 5 D) {F : Nat} (hca : ∀ x ∈ (ca_X12_finds (R' := cM) F), 1 ≤ D ∧ ceS X.1 RX12 (D - 1) x.1 x.2) (k92 : Nat → Int32 → Int32 → cM → Option (cM)) (hk92 : ∀ x0 x1 x3 M, k92 x0 x1 x3 M = some r → WX X 7 (eV r) 92 [some (.ref x0), some (.int x1), none, some (.int x3), none, none, none] [] M) : ∀ x0 x1 x3 s0 M, f_X12_finds_136 F k92 x0 x1 x3 s0 M = some r → WX X 7 (eV r) 136 [some (.ref x0), some (.int x1), none, some (.int x3), none, none, none] [.int s0] M := by
  intro x0 x1 x3 s0 M h
  exact seg_ok G P_RX12_ok T_X12_finds_ok hca (fun _ h => absurd h List.not_mem_nil) sw_X12_finds_ok krV_ok (kxN_ok (f := eV)) (List.forall_mem_cons.mpr ⟨kf_X12_finds_92 (hk92), fun _ h => absurd h List.not_mem_nil⟩) ((e_X12_finds_136 F (k92) x0 x1 x3 s0 M).symm.trans h)
set_option maxRecDepth 20000 in
theorem e_X12_finds_92 (F : Nat) (t136 : Nat → Int32 → Int32 → Int32 → cM → Option (cM)) (t175 : Nat → Int32 → Int32 → cM → Option (cM)) (x0 : Nat) (x1 : Int32) (x3 : Int32) (M : cM) : b_X12_finds_92 F t136 t175 x0 x1 x3 M = run T_X12_finds P_RX12 false 5 (naL na_X12_finds) (caL (ca_X12_finds F)) (lkN th_X12_finds) (lkN sw_X12_finds) krV kxN (spL [136, 175]) (KL [(136, kd_X12_finds_136 t136), (175, kd_X12_finds_175 t175)]) 247 92 [some (.ref x0), some (.int x1), none, some (.int x3), none, none, none] [] M := rfl
theorem ok_X12_finds_92 {X : cCtx} {D : Nat} {r : cM} (G : FX X 7 (eV r) cX12_finds RX12 5 D) {F : Nat} (hca : ∀ x ∈ (ca_X12_finds (R' := cM) F), 1 ≤ D ∧ ceS X.1 RX12 (D - 1) x.1 x.2) (n : Nat) : ∀ x0 x1 x3 M, f_X12_finds_92 F n x0 x1 x3 M = some r → WX X 7 (eV r) 92 [some (.ref x0), some (.int x1), none, some (.int x3), none, none, none] [] M := by
  induction n with
  | zero => intro x0 x1 x3 M h; cases h
  | succ n ih =>
    intro x0 x1 x3 M h
    exact seg_ok G P_RX12_ok T_X12_finds_ok hca (fun _ h => absurd h List.not_mem_nil) sw_X12_finds_ok krV_ok (kxN_ok (f := eV)) (List.forall_mem_cons.mpr ⟨kf_X12_finds_136 (ok_X12_finds_136 G hca (f_X12_finds_92 F n) ih), List.forall_mem_cons.mpr ⟨kf_X12_finds_175 (ok_X12_finds_175 G hca F), fun _ h => absurd h List.not_mem_nil⟩⟩) ((e_X12_finds_92 F (f_X12_finds_136 F (f_X12_finds_92 F n)) (f_X12_finds_175 F F) x0 x1 x3 M).symm.trans h)
set_option maxRecDepth 20000 in
theorem e_X12_finds_50 (F : Nat) (t50 : Nat → Int32 → Int32 → cM → Option (cM)) (t92 : Nat → Int32 → Int32 → cM → Option (cM)) (x0 : Nat) (x1 : Int32) (x3 : Int32) (M : cM) : b_X12_finds_50 F t50 t92 x0 x1 x3 M = run T_X12_finds P_RX12 false 5 (naL na_X12_finds) (caL (ca_X12_finds F)) (lkN th_X12_finds) (lkN sw_X12_finds) krV kxN (spL [50, 92]) (KL [(50, kd_X12_finds_50 t50), (92, kd_X12_finds_92 t92)]) 247 50 [some (.ref x0), some (.int x1), none, some (.int x3), none, none, none] [] M := rfl
theorem ok_X12_finds_50 {X : cCtx} {D : Nat} {r : cM} (G : FX X 7 (eV r) cX12_finds RX12 5 D) {F : Nat} (hca : ∀ x ∈ (ca_X12_finds (R' := cM) F), 1 ≤ D ∧ ceS X.1 RX12 (D - 1) x.1 x.2) (n : Nat) : ∀ x0 x1 x3 M, f_X12_finds_50 F n x0 x1 x3 M = some r → WX X 7 (eV r) 50 [some (.ref x0), some (.int x1), none, some (.int x3), none, none, none] [] M := by
  induction n with
  | zero => intro x0 x1 x3 M h; cases h
  | succ n ih =>
    intro x0 x1 x3 M h
    exact seg_ok G P_RX12_ok T_X12_finds_ok hca (fun _ h => absurd h List.not_mem_nil) sw_X12_finds_ok krV_ok (kxN_ok (f := eV)) (List.forall_mem_cons.mpr ⟨kf_X12_finds_50 (ih), List.forall_mem_cons.mpr ⟨kf_X12_finds_92 (ok_X12_finds_92 G hca F), fun _ h => absurd h List.not_mem_nil⟩⟩) ((e_X12_finds_50 F (f_X12_finds_50 F n) (f_X12_finds_92 F F) x0 x1 x3 M).symm.trans h)
set_option maxRecDepth 20000 in
theorem e_X12_finds_11 (F : Nat) (t11 : Nat → Int32 → Int32 → Int32 → cM → Option (cM)) (t50 : Nat → Int32 → Int32 → cM → Option (cM)) (x0 : Nat) (x1 : Int32) (x2 : Int32) (x3 : Int32) (M : cM) : b_X12_finds_11 F t11 t50 x0 x1 x2 x3 M = run T_X12_finds P_RX12 false 5 (naL na_X12_finds) (caL (ca_X12_finds F)) (lkN th_X12_finds) (lkN sw_X12_finds) krV kxN (spL [11, 50]) (KL [(11, kd_X12_finds_11 t11), (50, kd_X12_finds_50 t50)]) 247 11 [some (.ref x0), some (.int x1), some (.int x2), some (.int x3), none, none, none] [] M := rfl
theorem ok_X12_finds_11 {X : cCtx} {D : Nat} {r : cM} (G : FX X 7 (eV r) cX12_finds RX12 5 D) {F : Nat} (hca : ∀ x ∈ (ca_X12_finds (R' := cM) F), 1 ≤ D ∧ ceS X.1 RX12 (D - 1) x.1 x.2) (n : Nat) : ∀ x0 x1 x2 x3 M, f_X12_finds_11 F n x0 x1 x2 x3 M = some r → WX X 7 (eV r) 11 [some (.ref x0), some (.int x1), some (.int x2), some (.int x3), none, none, none] [] M := by
  induction n with
  | zero => intro x0 x1 x2 x3 M h; cases h
  | succ n ih =>
    intro x0 x1 x2 x3 M h
    exact seg_ok G P_RX12_ok T_X12_finds_ok hca (fun _ h => absurd h List.not_mem_nil) sw_X12_finds_ok krV_ok (kxN_ok (f := eV)) (List.forall_mem_cons.mpr ⟨kf_X12_finds_11 (ih), List.forall_mem_cons.mpr ⟨kf_X12_finds_50 (ok_X12_finds_50 G hca F), fun _ h => absurd h List.not_mem_nil⟩⟩) ((e_X12_finds_11 F (f_X12_finds_11 F n) (f_X12_finds_50 F F) x0 x1 x2 x3 M).symm.trans h)
set_option maxRecDepth 20000 in
theorem e_X12_finds_0 (F : Nat) (t11 : Nat → Int32 → Int32 → Int32 → cM → Option (cM)) (x0 : Nat) (x1 : Int32) (M : cM) : b_X12_finds_0 F t11 x0 x1 M = run T_X12_finds P_RX12 false 5 (naL na_X12_finds) (caL (ca_X12_finds F)) (lkN th_X12_finds) (lkN sw_X12_finds) krV kxN (spL [11]) (KL [(11, kd_X12_finds_11 t11)]) 247 0 [some (.ref x0), some (.int x1), none, none, none, none, none] [] M := rfl
theorem ok_X12_finds_0 {X : cCtx} {D : Nat} {r : cM} (G : FX X 7 (eV r) cX12_finds RX12 5 D) {F : Nat} (hca : ∀ x ∈ (ca_X12_finds (R' := cM) F), 1 ≤ D ∧ ceS X.1 RX12 (D - 1) x.1 x.2) : ∀ x0 x1 M, f_X12_finds_0 F x0 x1 M = some r → WX X 7 (eV r) 0 [some (.ref x0), some (.int x1), none, none, none, none, none] [] M := by
  intro x0 x1 M h
  exact seg_ok G P_RX12_ok T_X12_finds_ok hca (fun _ h => absurd h List.not_mem_nil) sw_X12_finds_ok krV_ok (kxN_ok (f := eV)) (List.forall_mem_cons.mpr ⟨kf_X12_finds_11 (ok_X12_finds_11 G hca F), fun _ h => absurd h List.not_mem_nil⟩) ((e_X12_finds_0 F (f_X12_finds_11 F F) x0 x1 M).symm.trans h)
theorem c_X12_finds {q : cL} (hst : q.1.stackTraces = false) {D : Nat} (hD : 3 ≤ D) (F : Nat) (a0 : Nat) (a1 : Int32) (M : cM) (r : cM) (h : f_X12_finds F a0 a1 M = some r) : CTx q yX12_finds (.code yX12_finds cX12_finds 7 none) D [.ref a0, .int a1] M (eV r) ∧ ∃ fs, M[a0]? = some (.inr (10, fs)) := by
  unfold f_X12_finds at h
  split at h
  · next hi => exact ⟨CTx_of (own := RX12) (rk := 5) hst (by decide +kernel) rfl (rfl) (Nat.le_of_ble_eq_true rfl) (fun X hX G => by subst hX; exact ok_X12_finds_0 G (ca_X12_finds_ok hst hD F) a0 a1 M h), isC_of hi⟩
  · cases h
def n_X12_finds {R' : Type} (f : Nat → Int32 → cM → Option (cM)) : cFn R' := fun as M κ κx => match as with
  | [.ref a0, .int a1] => (f a0 a1 M).bind fun p => κ none p
  | _ => none
theorem w_X12_finds : ∀ w ∈ [Cond.instanceMethod yX12_finds, .selects yX12_finds.cls yX12_finds yX12_finds, .initialized yX12_finds.cls, .code yX12_finds cX12_finds 7 none], w ∈ lw_good := List.forall_mem_cons.mpr ⟨lw_good_of (tb_ok 1498 (by decide +kernel)) rfl, List.forall_mem_cons.mpr ⟨lw_good_of (ts_ok 54 (by decide +kernel)) rfl, List.forall_mem_cons.mpr ⟨lw_good_of (tb_ok 11 (by decide +kernel)) rfl, List.forall_mem_cons.mpr ⟨lw_good_of (tb_ok 1499 (by decide +kernel)) rfl, fun _ h => absurd h List.not_mem_nil⟩⟩⟩⟩
theorem n_X12_finds_ok {R' : Type} {q : cL} {own : String} {d k : Nat} {f : Nat → Int32 → cM → Option (cM)} (hl : Cond.methodLink own k yX12_finds ∈ lw_good) (hf : ∀ a0 a1 M r, f a0 a1 M = some r → CTx q yX12_finds (.code yX12_finds cX12_finds 7 none) d [.ref a0, .int a1] M (eV r) ∧ ∃ fs, M[a0]? = some (.inr (10, fs))) : ceS q own d (3 * k + 1) (n_X12_finds (R' := R') f) := by
  intro as M κ κx r h
  unfold n_X12_finds at h
  split at h
  · obtain ⟨p, h1, h2⟩ := Option.bind_eq_some_iff.mp h
    obtain ⟨hc, fs, ha⟩ := hf _ _ _ _ h1
    exact ⟨eV p, fun _ => h2, fun hne => absurd rfl hne, Or.inr (Or.inl ⟨yX12_finds, cX12_finds, 7, none, k, 1, _, _, 10, TX12, 76, fs, rfl, rfl, hc, ha, rfl, List.forall_mem_cons.mpr ⟨hl, w_X12_finds⟩, ⟨rfl, by decide +kernel, by decide +kernel, by decide +kernel⟩, rfl, by decide⟩)⟩
  · cases h
-- PatchbayScriptModel.lays(III)V
def T_X12_lays : List cRow := [(0, .aload_n 0, 1, 0), (1, .getfield 89, 4, 0), (4, .iload_n 1, 5, 0), (5, .iload_n 2, 6, 0), (6, .iastore, 7, 0), (7, .aload_n 0, 8, 0), (8, .getfield 92, 11, 0), (11, .iload_n 1, 12, 0), (12, .aload_n 0, 13, 0), (13, .getfield 184, 16, 0), (16, .iload_n 3, 17, 0), (17, .iaload, 18, 0), (18, .iastore, 19, 0), (19, .iconst 0, 20, 0), (20, .istore 4, 22, 0), (22, .iload 4, 24, 0), (24, .iload_n 2, 25, 0), (25, .if_icmp .ge 250, 28, 275), (28, .iconst 4, 29, 0), (29, .iload_n 1, 30, 0), (30, .imul, 31, 0), (31, .iload 4, 33, 0), (33, .iadd, 34, 0), (34, .istore 5, 36, 0), (36, .aload_n 0, 37, 0), (37, .getfield 187, 40, 0), (40, .iconst 4, 41, 0), (41, .iload_n 3, 42, 0), (42, .imul, 43, 0), (43, .iload 4, 45, 0), (45, .iadd, 46, 0), (46, .iaload, 47, 0), (47, .istore 6, 49, 0), (49, .iload 6, 51, 0), (51, .aload_n 0, 52, 0), (52, .getfield 296, 55, 0), (55, .isub, 56, 0), (56, .istore 7, 58, 0), (58, .aload_n 0, 59, 0), (59, .getfield 95, 62, 0), (62, .iload 5, 64, 0), (64, .iload 7, 66, 0), (66, .ifCond .ge 7, 69, 73), (69, .iconst 0, 70, 0), (70, .goto 16, 73, 86), (73, .iload 7, 75, 0), (75, .sipush 3600, 78, 0), (78, .if_icmp .ge 7, 81, 85), (81, .iconst 1, 82, 0), (82, .goto 4, 85, 86), (85, .iconst 2, 86, 0), (86, .iastore, 87, 0), (87, .aload_n 0, 88, 0), (88, .getfield 98, 91, 0), (91, .iload 5, 93, 0), (93, .iload 7, 95, 0), (95, .ifCond .ge 13, 98, 108), (98, .aload_n 0, 99, 0), (99, .getfield 131, 102, 0), (102, .iload 6, 104, 0), (104, .iaload, 105, 0), (105, .goto 28, 108, 133), (108, .iload 7, 110, 0), (110, .sipush 3600, 113, 0), (113, .if_icmp .ge 11, 116, 124), (116, .iload 7, 118, 0), (118, .bipush 120, 120, 0), (120, .idiv, 121, 0), (121, .goto 12, 124, 133), (124, .iload 7, 126, 0), (126, .sipush 3600, 129, 0), (129, .isub, 130, 0), (130, .bipush 18, 132, 0), (132, .idiv, 133, 0), (133, .iastore, 134, 0), (134, .aload_n 0, 135, 0), (135, .getfield 101, 138, 0), (138, .iload 5, 140, 0), (140, .iload 7, 142, 0), (142, .ifCond .ge 7, 145, 149), (145, .iconst 0, 146, 0), (146, .goto 32, 149, 178), (149, .iload 7, 151, 0), (151, .sipush 3600, 154, 0), (154, .if_icmp .ge 13, 157, 167), (157, .iload 7, 159, 0), (159, .iconst 4, 160, 0), (160, .idiv, 161, 0), (161, .bipush 30, 163, 0), (163, .irem, 164, 0), (164, .goto 14, 167, 178), (167, .iload 7, 169, 0), (169, .sipush 3600, 172, 0), (172, .isub, 173, 0), (173, .bipush 6, 175, 0), (175, .idiv, 176, 0), (176, .iconst 3, 177, 0), (177, .irem, 178, 0), (178, .iastore, 179, 0), (179, .aload_n 0, 180, 0), (180, .getfield 104, 183, 0), (183, .iload 5, 185, 0), (185, .iload 7, 187, 0), (187, .ifCond .ge 7, 190, 194), (190, .iconst 0, 191, 0), (191, .goto 27, 194, 218), (194, .iload 7, 196, 0), (196, .sipush 3600, 199, 0), (199, .if_icmp .ge 10, 202, 209), (202, .iload 7, 204, 0), (204, .iconst 4, 205, 0), (205, .irem, 206, 0), (206, .goto 12, 209, 218), (209, .iload 7, 211, 0), (211, .sipush 3600, 214, 0), (214, .isub, 215, 0), (215, .bipush 6, 217, 0), (217, .irem, 218, 0), (218, .iastore, 219, 0), (219, .iconst 0, 220, 0), (220, .istore 8, 222, 0), (222, .iload 7, 224, 0), (224, .ifCond .ge 45, 227, 269), (227, .iload 8, 229, 0), (229, .aload_n 0, 230, 0), (230, .getfield 131, 233, 0), (233, .iload 6, 235, 0), (235, .iaload, 236, 0), (236, .if_icmp .ge 33, 239, 269), (239, .aload_n 0, 240, 0), (240, .getfield 107, 243, 0), (243, .iconst 4, 244, 0), (244, .iload 5, 246, 0), (246, .imul, 247, 0), (247, .iload 8, 249, 0), (249, .iadd, 250, 0), (250, .aload_n 0, 251, 0), (251, .getfield 128, 254, 0), (254, .iconst 4, 255, 0), (255, .iload 6, 257, 0), (257, .imul, 258, 0), (258, .iload 8, 260, 0), (260, .iadd, 261, 0), (261, .iaload, 262, 0), (262, .iastore, 263, 0), (263, .iinc 8 1, 266, 0), (266, .goto (-44), 269, 222), (269, .iinc 4 1, 272, 0), (272, .goto (-250), 275, 22), (275, .return_, 276, 0)]
theorem T_X12_lays_ok : T_X12_lays.all (rowB cX12_lays) = true := by decide +kernel
def th_X12_lays : List (Nat × Nat) := []
def sw_X12_lays : List (Nat × (List (Int32 × Nat) × Nat)) := []
theorem sw_X12_lays_ok : ∀ q ∈ sw_X12_lays, swS cX12_lays q := fun _ h => absurd h List.not_mem_nil
def na_X12_lays : List (Nat × Nat) := []
def ca_X12_lays {R' : Type} (F : Nat) : List (Nat × cFn R') := []
theorem ca_X12_lays_ok {R' : Type} {q : cL} (hst : q.1.stackTraces = false) {D : Nat} (hD : 0 ≤ D) (F : Nat) : ∀ x ∈ (ca_X12_lays (R' := R') F), 1 ≤ D ∧ ceS q RX12 (D - 1) x.1 x.2 := fun _ h => absurd h List.not_mem_nil
def kd_X12_lays_22 (g : Nat → Int32 → Int32 → Int32 → Int32 → cM → Option (cM)) : cKf (cM) := fun vs st M => (lR vs 0).bind fun x0 => (lI vs 1).bind fun x1 => (lI vs 2).bind fun x2 => (lI vs 3).bind fun x3 => (lI vs 4).bind fun x4 => match st with
  | [] => g x0 x1 x2 x3 x4 M
  | _ => none
theorem kf_X12_lays_22 {X : cCtx} {o : cO} {r : cM} {g : Nat → Int32 → Int32 → Int32 → Int32 → cM → Option (cM)} (hg : ∀ x0 x1 x2 x3 x4 M, g x0 x1 x2 x3 x4 M = some r → WX X 9 o 22 [some (.ref x0), some (.int x1), some (.int x2), some (.int x3), some (.int x4), none, none, none, none] [] M) : ∀ vs st M, kd_X12_lays_22 g vs st M = some r → WX X 9 o 22 vs st M := by
  intro vs st M h
  unfold kd_X12_lays_22 at h
  obtain ⟨x0, h0, h⟩ := Option.bind_eq_some_iff.mp h
  obtain ⟨x1, h1, h⟩ := Option.bind_eq_some_iff.mp h
  obtain ⟨x2, h2, h⟩ := Option.bind_eq_some_iff.mp h
  obtain ⟨x3, h3, h⟩ := Option.bind_eq_some_iff.mp h
  obtain ⟨x4, h4, h⟩ := Option.bind_eq_some_iff.mp h
  split at h
  · exact WX_weak (hg _ _ _ _ _ _ h) rfl ⟨lR_of h0, lI_of h1, lI_of h2, lI_of h3, lI_of h4, trivial⟩
  · cases h
def kd_X12_lays_86 (g : Nat → Int32 → Int32 → Int32 → Int32 → Int32 → Int32 → Int32 → Nat → Int32 → Int32 → cM → Option (cM)) : cKf (cM) := fun vs st M => (lR vs 0).bind fun x0 => (lI vs 1).bind fun x1 => (lI vs 2).bind fun x2 => (lI vs 3).bind fun x3 => (lI vs 4).bind fun x4 => (lI vs 5).bind fun x5 => (lI vs 6).bind fun x6 => (lI vs 7).bind fun x7 => match st with
  | [.int s2, .int s1, .ref s0] => g x0 x1 x2 x3 x4 x5 x6 x7 s0 s1 s2 M
  | _ => none
theorem kf_X12_lays_86 {X : cCtx} {o : cO} {r : cM} {g : Nat → Int32 → Int32 → Int32 → Int32 → Int32 → Int32 → Int32 → Nat → Int32 → Int32 → cM → Option (cM)} (hg : ∀ x0 x1 x2 x3 x4 x5 x6 x7 s0 s1 s2 M, g x0 x1 x2 x3 x4 x5 x6 x7 s0 s1 s2 M = some r → WX X 9 o 86 [some (.ref x0), some (.int x1), some (.int x2), some (.int x3), some (.int x4), some (.int x5), some (.int x6), some (.int x7), none] [.int s2, .int s1, .ref s0] M) : ∀ vs st M, kd_X12_lays_86 g vs st M = some r → WX X 9 o 86 vs st M := by
  intro vs st M h
  unfold kd_X12_lays_86 at h
  obtain ⟨x0, h0, h⟩ := Option.bind_eq_some_iff.mp h
  obtain ⟨x1, h1, h⟩ := Option.bind_eq_some_iff.mp h
  obtain ⟨x2, h2, h⟩ := Option.bind_eq_some_iff.mp h
  obtain ⟨x3, h3, h⟩ := Option.bind_eq_some_iff.mp h
  obtain ⟨x4, h4, h⟩ := Option.bind_eq_some_iff.mp h
  obtain ⟨x5, h5, h⟩ := Option.bind_eq_some_iff.mp h
  obtain ⟨x6, h6, h⟩ := Option.bind_eq_some_iff.mp h
  obtain ⟨x7, h7, h⟩ := Option.bind_eq_some_iff.mp h
  split at h
  · exact WX_weak (hg _ _ _ _ _ _ _ _ _ _ _ _ h) rfl ⟨lR_of h0, lI_of h1, lI_of h2, lI_of h3, lI_of h4, lI_of h5, lI_of h6, lI_of h7, trivial⟩
  · cases h
def kd_X12_lays_133 (g : Nat → Int32 → Int32 → Int32 → Int32 → Int32 → Int32 → Int32 → Nat → Int32 → Int32 → cM → Option (cM)) : cKf (cM) := fun vs st M => (lR vs 0).bind fun x0 => (lI vs 1).bind fun x1 => (lI vs 2).bind fun x2 => (lI vs 3).bind fun x3 => (lI vs 4).bind fun x4 => (lI vs 5).bind fun x5 => (lI vs 6).bind fun x6 => (lI vs 7).bind fun x7 => match st with
  | [.int s2, .int s1, .ref s0] => g x0 x1 x2 x3 x4 x5 x6 x7 s0 s1 s2 M
  | _ => none
theorem kf_X12_lays_133 {X : cCtx} {o : cO} {r : cM} {g : Nat → Int32 → Int32 → Int32 → Int32 → Int32 → Int32 → Int32 → Nat → Int32 → Int32 → cM → Option (cM)} (hg : ∀ x0 x1 x2 x3 x4 x5 x6 x7 s0 s1 s2 M, g x0 x1 x2 x3 x4 x5 x6 x7 s0 s1 s2 M = some r → WX X 9 o 133 [some (.ref x0), some (.int x1), some (.int x2), some (.int x3), some (.int x4), some (.int x5), some (.int x6), some (.int x7), none] [.int s2, .int s1, .ref s0] M) : ∀ vs st M, kd_X12_lays_133 g vs st M = some r → WX X 9 o 133 vs st M := by
  intro vs st M h
  unfold kd_X12_lays_133 at h
  obtain ⟨x0, h0, h⟩ := Option.bind_eq_some_iff.mp h
  obtain ⟨x1, h1, h⟩ := Option.bind_eq_some_iff.mp h
  obtain ⟨x2, h2, h⟩ := Option.bind_eq_some_iff.mp h
  obtain ⟨x3, h3, h⟩ := Option.bind_eq_some_iff.mp h
  obtain ⟨x4, h4, h⟩ := Option.bind_eq_some_iff.mp h
  obtain ⟨x5, h5, h⟩ := Option.bind_eq_some_iff.mp h
  obtain ⟨x6, h6, h⟩ := Option.bind_eq_some_iff.mp h
  obtain ⟨x7, h7, h⟩ := Option.bind_eq_some_iff.mp h
  split at h
  · exact WX_weak (hg _ _ _ _ _ _ _ _ _ _ _ _ h) rfl ⟨lR_of h0, lI_of h1, lI_of h2, lI_of h3, lI_of h4, lI_of h5, lI_of h6, lI_of h7, trivial⟩
  · cases h
def kd_X12_lays_178 (g : Nat → Int32 → Int32 → Int32 → Int32 → Int32 → Int32 → Int32 → Nat → Int32 → Int32 → cM → Option (cM)) : cKf (cM) := fun vs st M => (lR vs 0).bind fun x0 => (lI vs 1).bind fun x1 => (lI vs 2).bind fun x2 => (lI vs 3).bind fun x3 => (lI vs 4).bind fun x4 => (lI vs 5).bind fun x5 => (lI vs 6).bind fun x6 => (lI vs 7).bind fun x7 => match st with
  | [.int s2, .int s1, .ref s0] => g x0 x1 x2 x3 x4 x5 x6 x7 s0 s1 s2 M
  | _ => none
theorem kf_X12_lays_178 {X : cCtx} {o : cO} {r : cM} {g : Nat → Int32 → Int32 → Int32 → Int32 → Int32 → Int32 → Int32 → Nat → Int32 → Int32 → cM → Option (cM)} (hg : ∀ x0 x1 x2 x3 x4 x5 x6 x7 s0 s1 s2 M, g x0 x1 x2 x3 x4 x5 x6 x7 s0 s1 s2 M = some r → WX X 9 o 178 [some (.ref x0), some (.int x1), some (.int x2), some (.int x3), some (.int x4), some (.int x5), some (.int x6), some (.int x7), none] [.int s2, .int s1, .ref s0] M) : ∀ vs st M, kd_X12_lays_178 g vs st M = some r → WX X 9 o 178 vs st M := by
  intro vs st M h
  unfold kd_X12_lays_178 at h
  obtain ⟨x0, h0, h⟩ := Option.bind_eq_some_iff.mp h
  obtain ⟨x1, h1, h⟩ := Option.bind_eq_some_iff.mp h
  obtain ⟨x2, h2, h⟩ := Option.bind_eq_some_iff.mp h
  obtain ⟨x3, h3, h⟩ := Option.bind_eq_some_iff.mp h
  obtain ⟨x4, h4, h⟩ := Option.bind_eq_some_iff.mp h
  obtain ⟨x5, h5, h⟩ := Option.bind_eq_some_iff.mp h
  obtain ⟨x6, h6, h⟩ := Option.bind_eq_some_iff.mp h
  obtain ⟨x7, h7, h⟩ := Option.bind_eq_some_iff.mp h
  split at h
  · exact WX_weak (hg _ _ _ _ _ _ _ _ _ _ _ _ h) rfl ⟨lR_of h0, lI_of h1, lI_of h2, lI_of h3, lI_of h4, lI_of h5, lI_of h6, lI_of h7, trivial⟩
  · cases h
def kd_X12_lays_222 (g : Nat → Int32 → Int32 → Int32 → Int32 → Int32 → Int32 → Int32 → Int32 → cM → Option (cM)) : cKf (cM) := fun vs st M => (lR vs 0).bind fun x0 => (lI vs 1).bind fun x1 => (lI vs 2).bind fun x2 => (lI vs 3).bind fun x3 => (lI vs 4).bind fun x4 => (lI vs 5).bind fun x5 => (lI vs 6).bind fun x6 => (lI vs 7).bind fun x7 => (lI vs 8).bind fun x8 => match st with
  | [] => g x0 x1 x2 x3 x4 x5 x6 x7 x8 M
  | _ => none
theorem kf_X12_lays_222 {X : cCtx} {o : cO} {r : cM} {g : Nat → Int32 → Int32 → Int32 → Int32 → Int32 → Int32 → Int32 → Int32 → cM → Option (cM)} (hg : ∀ x0 x1 x2 x3 x4 x5 x6 x7 x8 M, g x0 x1 x2 x3 x4 x5 x6 x7 x8 M = some r → WX X 9 o 222 [some (.ref x0), some (.int x1), some (.int x2), some (.int x3), some (.int x4), some (.int x5), some (.int x6), some (.int x7), some (.int x8)] [] M) : ∀ vs st M, kd_X12_lays_222 g vs st M = some r → WX X 9 o 222 vs st M := by
  intro vs st M h
  unfold kd_X12_lays_222 at h
  obtain ⟨x0, h0, h⟩ := Option.bind_eq_some_iff.mp h
  obtain ⟨x1, h1, h⟩ := Option.bind_eq_some_iff.mp h
  obtain ⟨x2, h2, h⟩ := Option.bind_eq_some_iff.mp h
  obtain ⟨x3, h3, h⟩ := Option.bind_eq_some_iff.mp h
  obtain ⟨x4, h4, h⟩ := Option.bind_eq_some_iff.mp h
  obtain ⟨x5, h5, h⟩ := Option.bind_eq_some_iff.mp h
  obtain ⟨x6, h6, h⟩ := Option.bind_eq_some_iff.mp h
  obtain ⟨x7, h7, h⟩ := Option.bind_eq_some_iff.mp h
  obtain ⟨x8, h8, h⟩ := Option.bind_eq_some_iff.mp h
  split at h
  · exact WX_weak (hg _ _ _ _ _ _ _ _ _ _ h) rfl ⟨lR_of h0, lI_of h1, lI_of h2, lI_of h3, lI_of h4, lI_of h5, lI_of h6, lI_of h7, lI_of h8, trivial⟩
  · cases h
set_option maxRecDepth 20000 in
theorem e_X12_lays_222 (F : Nat) (t22 : Nat → Int32 → Int32 → Int32 → Int32 → cM → Option (cM)) (t222 : Nat → Int32 → Int32 → Int32 → Int32 → Int32 → Int32 → Int32 → Int32 → cM → Option (cM)) (x0 : Nat) (x1 : Int32) (x2 : Int32) (x3 : Int32) (x4 : Int32) (x5 : Int32) (x6 : Int32) (x7 : Int32) (x8 : Int32) (M : cM) : b_X12_lays_222 F t22 t222 x0 x1 x2 x3 x4 x5 x6 x7 x8 M = run T_X12_lays P_RX12 false 5 (naL na_X12_lays) (caL (ca_X12_lays F)) (lkN th_X12_lays) (lkN sw_X12_lays) krV kxN (spL [22, 222]) (KL [(22, kd_X12_lays_22 t22), (222, kd_X12_lays_222 t222)]) 153 222 [some (.ref x0), some (.int x1), some (.int x2), some (.int x3), some (.int x4), some (.int x5), some (.int x6), some (.int x7), some (.int x8)] [] M := rfl
theorem ok_X12_lays_222 {X : cCtx} {D : Nat} {r : cM} (G : FX X 9 (eV r) cX12_lays RX12 5 D) {F : Nat} (hca : ∀ x ∈ (ca_X12_lays (R' := cM) F), 1 ≤ D ∧ ceS X.1 RX12 (D - 1) x.1 x.2) (k22 : Nat → Int32 → Int32 → Int32 → Int32 → cM → Option (cM)) (hk22 : ∀ x0 x1 x2 x3 x4 M, k22 x0 x1 x2 x3 x4 M = some r → WX X 9 (eV r) 22 [some (.ref x0), some (.int x1), some (.int x2), some (.int x3), some (.int x4), none, none, none, none] [] M) (n : Nat) : ∀ x0 x1 x2 x3 x4 x5 x6 x7 x8 M, f_X12_lays_222 F k22 n x0 x1 x2 x3 x4 x5 x6 x7 x8 M = some r → WX X 9 (eV r) 222 [some (.ref x0), some (.int x1), some (.int x2), some (.int x3), some (.int x4), some (.int x5), some (.int x6), some (.int x7), some (.int x8)] [] M := by
  induction n with
  | zero => intro x0 x1 x2 x3 x4 x5 x6 x7 x8 M h; cases h
  | succ n ih =>
    intro x0 x1 x2 x3 x4 x5 x6 x7 x8 M h
    exact seg_ok G P_RX12_ok T_X12_lays_ok hca (fun _ h => absurd h List.not_mem_nil) sw_X12_lays_ok krV_ok (kxN_ok (f := eV)) (List.forall_mem_cons.mpr ⟨kf_X12_lays_22 (hk22), List.forall_mem_cons.mpr ⟨kf_X12_lays_222 (ih), fun _ h => absurd h List.not_mem_nil⟩⟩) ((e_X12_lays_222 F (k22) (f_X12_lays_222 F k22 n) x0 x1 x2 x3 x4 x5 x6 x7 x8 M).symm.trans h)
set_option maxRecDepth 20000 in
theorem e_X12_lays_178 (F : Nat) (t222 : Nat → Int32 → Int32 → Int32 → Int32 → Int32 → Int32 → Int32 → Int32 → cM → Option (cM)) (x0 : Nat) (x1 : Int32) (x2 : Int32) (x3 : Int32) (x4 : Int32) (x5 : Int32) (x6 : Int32) (x7 : Int32) (s0 : Nat) (s1 : Int32) (s2 : Int32) (M : cM) : b_X12_lays_178 F t222 x0 x1 x2 x3 x4 x5 x6 x7 s0 s1 s2 M = run T_X12_lays P_RX12 false 5 (naL na_X12_lays) (caL (ca_X12_lays F)) (lkN th_X12_lays) (lkN sw_X12_lays) krV kxN (spL [222]) (KL [(222, kd_X12_lays_222 t222)]) 153 178 [some (.ref x0), some (.int x1), some (.int x2), some (.int x3), some (.int x4), some (.int x5), some (.int x6), some (.int x7), none] [.int s2, .int s1, .ref s0] M := rfl
theorem ok_X12_lays_178 {X : cCtx} {D : Nat} {r : cM} (G : FX X 9 (eV r) cX12_lays RX12 5 D) {F : Nat} (hca : ∀ x ∈ (ca_X12_lays (R' := cM) F), 1 ≤ D ∧ ceS X.1 RX12 (D - 1) x.1 x.2) (k22 : Nat → Int32 → Int32 → Int32 → Int32 → cM → Option (cM)) (hk22 : ∀ x0 x1 x2 x3 x4 M, k22 x0 x1 x2 x3 x4 M = some r → WX X 9 (eV r) 22 [some (.ref x0), some (.int x1), some (.int x2), some (.int x3), some (.int x4), none, none, none, none] [] M) : ∀ x0 x1 x2 x3 x4 x5 x6 x7 s0 s1 s2 M, f_X12_lays_178 F k22 x0 x1 x2 x3 x4 x5 x6 x7 s0 s1 s2 M = some r → WX X 9 (eV r) 178 [some (.ref x0), some (.int x1), some (.int x2), some (.int x3), some (.int x4), some (.int x5), some (.int x6), some (.int x7), none] [.int s2, .int s1, .ref s0] M := by
  intro x0 x1 x2 x3 x4 x5 x6 x7 s0 s1 s2 M h
  exact seg_ok G P_RX12_ok T_X12_lays_ok hca (fun _ h => absurd h List.not_mem_nil) sw_X12_lays_ok krV_ok (kxN_ok (f := eV)) (List.forall_mem_cons.mpr ⟨kf_X12_lays_222 (ok_X12_lays_222 G hca k22 hk22 F), fun _ h => absurd h List.not_mem_nil⟩) ((e_X12_lays_178 F (f_X12_lays_222 F k22 F) x0 x1 x2 x3 x4 x5 x6 x7 s0 s1 s2 M).symm.trans h)
set_option maxRecDepth 20000 in
theorem e_X12_lays_133 (F : Nat) (t178 : Nat → Int32 → Int32 → Int32 → Int32 → Int32 → Int32 → Int32 → Nat → Int32 → Int32 → cM → Option (cM)) (x0 : Nat) (x1 : Int32) (x2 : Int32) (x3 : Int32) (x4 : Int32) (x5 : Int32) (x6 : Int32) (x7 : Int32) (s0 : Nat) (s1 : Int32) (s2 : Int32) (M : cM) : b_X12_lays_133 F t178 x0 x1 x2 x3 x4 x5 x6 x7 s0 s1 s2 M = run T_X12_lays P_RX12 false 5 (naL na_X12_lays) (caL (ca_X12_lays F)) (lkN th_X12_lays) (lkN sw_X12_lays) krV kxN (spL [178]) (KL [(178, kd_X12_lays_178 t178)]) 153 133 [some (.ref x0), some (.int x1), some (.int x2), some (.int x3), some (.int x4), some (.int x5), some (.int x6), some (.int x7), none] [.int s2, .int s1, .ref s0] M := rfl
theorem ok_X12_lays_133 {X : cCtx} {D : Nat} {r : cM} (G : FX X 9 (eV r) cX12_lays RX12 5 D) {F : Nat} (hca : ∀ x ∈ (ca_X12_lays (R' := cM) F), 1 ≤ D ∧ ceS X.1 RX12 (D - 1) x.1 x.2) (k22 : Nat → Int32 → Int32 → Int32 → Int32 → cM → Option (cM)) (hk22 : ∀ x0 x1 x2 x3 x4 M, k22 x0 x1 x2 x3 x4 M = some r → WX X 9 (eV r) 22 [some (.ref x0), some (.int x1), some (.int x2), some (.int x3), some (.int x4), none, none, none, none] [] M) : ∀ x0 x1 x2 x3 x4 x5 x6 x7 s0 s1 s2 M, f_X12_lays_133 F k22 x0 x1 x2 x3 x4 x5 x6 x7 s0 s1 s2 M = some r → WX X 9 (eV r) 133 [some (.ref x0), some (.int x1), some (.int x2), some (.int x3), some (.int x4), some (.int x5), some (.int x6), some (.int x7), none] [.int s2, .int s1, .ref s0] M := by
  intro x0 x1 x2 x3 x4 x5 x6 x7 s0 s1 s2 M h
  exact seg_ok G P_RX12_ok T_X12_lays_ok hca (fun _ h => absurd h List.not_mem_nil) sw_X12_lays_ok krV_ok (kxN_ok (f := eV)) (List.forall_mem_cons.mpr ⟨kf_X12_lays_178 (ok_X12_lays_178 G hca k22 hk22), fun _ h => absurd h List.not_mem_nil⟩) ((e_X12_lays_133 F (f_X12_lays_178 F k22) x0 x1 x2 x3 x4 x5 x6 x7 s0 s1 s2 M).symm.trans h)
set_option maxRecDepth 20000 in
theorem e_X12_lays_86 (F : Nat) (t133 : Nat → Int32 → Int32 → Int32 → Int32 → Int32 → Int32 → Int32 → Nat → Int32 → Int32 → cM → Option (cM)) (x0 : Nat) (x1 : Int32) (x2 : Int32) (x3 : Int32) (x4 : Int32) (x5 : Int32) (x6 : Int32) (x7 : Int32) (s0 : Nat) (s1 : Int32) (s2 : Int32) (M : cM) : b_X12_lays_86 F t133 x0 x1 x2 x3 x4 x5 x6 x7 s0 s1 s2 M = run T_X12_lays P_RX12 false 5 (naL na_X12_lays) (caL (ca_X12_lays F)) (lkN th_X12_lays) (lkN sw_X12_lays) krV kxN (spL [133]) (KL [(133, kd_X12_lays_133 t133)]) 153 86 [some (.ref x0), some (.int x1), some (.int x2), some (.int x3), some (.int x4), some (.int x5), some (.int x6), some (.int x7), none] [.int s2, .int s1, .ref s0] M := rfl
theorem ok_X12_lays_86 {X : cCtx} {D : Nat} {r : cM} (G : FX X 9 (eV r) cX12_lays RX12 5 D) {F : Nat} (hca : ∀ x ∈ (ca_X12_lays (R' := cM) F), 1 ≤ D ∧ ceS X.1 RX12 (D - 1) x.1 x.2) (k22 : Nat → Int32 → Int32 → Int32 → Int32 → cM → Option (cM)) (hk22 : ∀ x0 x1 x2 x3 x4 M, k22 x0 x1 x2 x3 x4 M = some r → WX X 9 (eV r) 22 [some (.ref x0), some (.int x1), some (.int x2), some (.int x3), some (.int x4), none, none, none, none] [] M) : ∀ x0 x1 x2 x3 x4 x5 x6 x7 s0 s1 s2 M, f_X12_lays_86 F k22 x0 x1 x2 x3 x4 x5 x6 x7 s0 s1 s2 M = some r → WX X 9 (eV r) 86 [some (.ref x0), some (.int x1), some (.int x2), some (.int x3), some (.int x4), some (.int x5), some (.int x6), some (.int x7), none] [.int s2, .int s1, .ref s0] M := by
  intro x0 x1 x2 x3 x4 x5 x6 x7 s0 s1 s2 M h
  exact seg_ok G P_RX12_ok T_X12_lays_ok hca (fun _ h => absurd h List.not_mem_nil) sw_X12_lays_ok krV_ok (kxN_ok (f := eV)) (List.forall_mem_cons.mpr ⟨kf_X12_lays_133 (ok_X12_lays_133 G hca k22 hk22), fun _ h => absurd h List.not_mem_nil⟩) ((e_X12_lays_86 F (f_X12_lays_133 F k22) x0 x1 x2 x3 x4 x5 x6 x7 s0 s1 s2 M).symm.trans h)
set_option maxRecDepth 20000 in
theorem e_X12_lays_22 (F : Nat) (t86 : Nat → Int32 → Int32 → Int32 → Int32 → Int32 → Int32 → Int32 → Nat → Int32 → Int32 → cM → Option (cM)) (x0 : Nat) (x1 : Int32) (x2 : Int32) (x3 : Int32) (x4 : Int32) (M : cM) : b_X12_lays_22 F t86 x0 x1 x2 x3 x4 M = run T_X12_lays P_RX12 false 5 (naL na_X12_lays) (caL (ca_X12_lays F)) (lkN th_X12_lays) (lkN sw_X12_lays) krV kxN (spL [86]) (KL [(86, kd_X12_lays_86 t86)]) 153 22 [some (.ref x0), some (.int x1), some (.int x2), some (.int x3), some (.int x4), none, none, none, none] [] M := rfl
theorem ok_X12_lays_22 {X : cCtx} {D : Nat} {r : cM} (G : FX X 9 (eV r) cX12_lays RX12 5 D) {F : Nat} (hca : ∀ x ∈ (ca_X12_lays (R' := cM) F), 1 ≤ D ∧ ceS X.1 RX12 (D - 1) x.1 x.2) (n : Nat) : ∀ x0 x1 x2 x3 x4 M, f_X12_lays_22 F n x0 x1 x2 x3 x4 M = some r → WX X 9 (eV r) 22 [some (.ref x0), some (.int x1), some (.int x2), some (.int x3), some (.int x4), none, none, none, none] [] M := by
  induction n with
  | zero => intro x0 x1 x2 x3 x4 M h; cases h
  | succ n ih =>
    intro x0 x1 x2 x3 x4 M h
    exact seg_ok G P_RX12_ok T_X12_lays_ok hca (fun _ h => absurd h List.not_mem_nil) sw_X12_lays_ok krV_ok (kxN_ok (f := eV)) (List.forall_mem_cons.mpr ⟨kf_X12_lays_86 (ok_X12_lays_86 G hca (f_X12_lays_22 F n) ih), fun _ h => absurd h List.not_mem_nil⟩) ((e_X12_lays_22 F (f_X12_lays_86 F (f_X12_lays_22 F n)) x0 x1 x2 x3 x4 M).symm.trans h)
set_option maxRecDepth 20000 in
theorem e_X12_lays_0 (F : Nat) (t22 : Nat → Int32 → Int32 → Int32 → Int32 → cM → Option (cM)) (x0 : Nat) (x1 : Int32) (x2 : Int32) (x3 : Int32) (M : cM) : b_X12_lays_0 F t22 x0 x1 x2 x3 M = run T_X12_lays P_RX12 false 5 (naL na_X12_lays) (caL (ca_X12_lays F)) (lkN th_X12_lays) (lkN sw_X12_lays) krV kxN (spL [22]) (KL [(22, kd_X12_lays_22 t22)]) 153 0 [some (.ref x0), some (.int x1), some (.int x2), some (.int x3), none, none, none, none, none] [] M := rfl
theorem ok_X12_lays_0 {X : cCtx} {D : Nat} {r : cM} (G : FX X 9 (eV r) cX12_lays RX12 5 D) {F : Nat} (hca : ∀ x ∈ (ca_X12_lays (R' := cM) F), 1 ≤ D ∧ ceS X.1 RX12 (D - 1) x.1 x.2) : ∀ x0 x1 x2 x3 M, f_X12_lays_0 F x0 x1 x2 x3 M = some r → WX X 9 (eV r) 0 [some (.ref x0), some (.int x1), some (.int x2), some (.int x3), none, none, none, none, none] [] M := by
  intro x0 x1 x2 x3 M h
  exact seg_ok G P_RX12_ok T_X12_lays_ok hca (fun _ h => absurd h List.not_mem_nil) sw_X12_lays_ok krV_ok (kxN_ok (f := eV)) (List.forall_mem_cons.mpr ⟨kf_X12_lays_22 (ok_X12_lays_22 G hca F), fun _ h => absurd h List.not_mem_nil⟩) ((e_X12_lays_0 F (f_X12_lays_22 F F) x0 x1 x2 x3 M).symm.trans h)
theorem c_X12_lays {q : cL} (hst : q.1.stackTraces = false) {D : Nat} (hD : 0 ≤ D) (F : Nat) (a0 : Nat) (a1 : Int32) (a2 : Int32) (a3 : Int32) (M : cM) (r : cM) (h : f_X12_lays F a0 a1 a2 a3 M = some r) : CTx q yX12_lays (.code yX12_lays cX12_lays 9 none) D [.ref a0, .int a1, .int a2, .int a3] M (eV r) ∧ ∃ fs, M[a0]? = some (.inr (10, fs)) := by
  unfold f_X12_lays at h
  split at h
  · next hi => exact ⟨CTx_of (own := RX12) (rk := 5) hst (by decide +kernel) rfl (rfl) (Nat.le_of_ble_eq_true rfl) (fun X hX G => by subst hX; exact ok_X12_lays_0 G (ca_X12_lays_ok hst hD F) a0 a1 a2 a3 M h), isC_of hi⟩
  · cases h
def n_X12_lays {R' : Type} (f : Nat → Int32 → Int32 → Int32 → cM → Option (cM)) : cFn R' := fun as M κ κx => match as with
  | [.ref a0, .int a1, .int a2, .int a3] => (f a0 a1 a2 a3 M).bind fun p => κ none p
  | _ => none
theorem w_X12_lays : ∀ w ∈ [Cond.instanceMethod yX12_lays, .selects yX12_lays.cls yX12_lays yX12_lays, .initialized yX12_lays.cls, .code yX12_lays cX12_lays 9 none], w ∈ lw_good := List.forall_mem_cons.mpr ⟨lw_good_of (tb_ok 1534 (by decide +kernel)) rfl, List.forall_mem_cons.mpr ⟨lw_good_of (ts_ok 63 (by decide +kernel)) rfl, List.forall_mem_cons.mpr ⟨lw_good_of (tb_ok 11 (by decide +kernel)) rfl, List.forall_mem_cons.mpr ⟨lw_good_of (tb_ok 1535 (by decide +kernel)) rfl, fun _ h => absurd h List.not_mem_nil⟩⟩⟩⟩
theorem n_X12_lays_ok {R' : Type} {q : cL} {own : String} {d k : Nat} {f : Nat → Int32 → Int32 → Int32 → cM → Option (cM)} (hl : Cond.methodLink own k yX12_lays ∈ lw_good) (hf : ∀ a0 a1 a2 a3 M r, f a0 a1 a2 a3 M = some r → CTx q yX12_lays (.code yX12_lays cX12_lays 9 none) d [.ref a0, .int a1, .int a2, .int a3] M (eV r) ∧ ∃ fs, M[a0]? = some (.inr (10, fs))) : ceS q own d (3 * k + 1) (n_X12_lays (R' := R') f) := by
  intro as M κ κx r h
  unfold n_X12_lays at h
  split at h
  · obtain ⟨p, h1, h2⟩ := Option.bind_eq_some_iff.mp h
    obtain ⟨hc, fs, ha⟩ := hf _ _ _ _ _ _ h1
    exact ⟨eV p, fun _ => h2, fun hne => absurd rfl hne, Or.inr (Or.inl ⟨yX12_lays, cX12_lays, 9, none, k, 3, _, _, 10, TX12, 76, fs, rfl, rfl, hc, ha, rfl, List.forall_mem_cons.mpr ⟨hl, w_X12_lays⟩, ⟨rfl, by decide +kernel, by decide +kernel, by decide +kernel⟩, rfl, by decide⟩)⟩
  · cases h
-- PatchbayScriptModel.counts(I)V
def T_X12_counts : List cRow := [(0, .aload_n 0, 1, 0), (1, .iload_n 1, 2, 0), (2, .invokevirtual 363, 5, 0), (5, .aload_n 0, 6, 0), (6, .iconst 0, 7, 0), (7, .putfield 366, 10, 0), (10, .iconst 1, 11, 0), (11, .istore_n 2, 12, 0), (12, .iload_n 2, 13, 0), (13, .iconst 4, 14, 0), (14, .if_icmp .gt 21, 17, 35), (17, .aload_n 0, 18, 0), (18, .iload_n 2, 19, 0), (19, .invokevirtual 369, 22, 0), (22, .aload_n 0, 23, 0), (23, .getfield 190, 26, 0), (26, .iload_n 2, 27, 0), (27, .iconst 0, 28, 0), (28, .iastore, 29, 0), (29, .iinc 2 1, 32, 0), (32, .goto (-20), 35, 12), (35, .iconst 1, 36, 0), (36, .istore_n 2, 37, 0), (37, .aload_n 0, 38, 0), (38, .getfield 366, 41, 0), (41, .iconst 5, 42, 0), (42, .if_icmp .ge 158, 45, 200), (45, .iload_n 2, 46, 0), (46, .ifCond .eq 154, 49, 200), (49, .iconst 0, 50, 0), (50, .istore_n 3, 51, 0), (51, .iconst 1, 52, 0), (52, .istore 4, 54, 0), (54, .iload 4, 56, 0), (56, .iconst 4, 57, 0), (57, .if_icmp .gt 84, 60, 141), (60, .aload_n 0, 61, 0), (61, .getfield 190, 64, 0), (64, .iload 4, 66, 0), (66, .iaload, 67, 0), (67, .aload_n 0, 68, 0), (68, .getfield 181, 71, 0), (71, .iload 4, 73, 0), (73, .iaload, 74, 0), (74, .if_icmp .ge 7, 77, 81), (77, .iconst 1, 78, 0), (78, .goto 4, 81, 82), (81, .iconst 0, 82, 0), (82, .istore 5, 84, 0), (84, .iload 5, 86, 0), (86, .ifCond .eq 47, 89, 133), (89, .iload_n 3, 90, 0), (90, .ifCond .eq 38, 93, 128), (93, .aload_n 0, 94, 0), (94, .getfield 184, 97, 0), (97, .iconst 5, 98, 0), (98, .iload 4, 100, 0), (100, .imul, 101, 0), (101, .aload_n 0, 102, 0), (102, .getfield 190, 105, 0), (105, .iload 4, 107, 0), (107, .iaload, 108, 0), (108, .iadd, 109, 0), (109, .iaload, 110, 0), (110, .aload_n 0, 111, 0), (111, .getfield 184, 114, 0), (114, .iconst 5, 115, 0), (115, .iload_n 3, 116, 0), (116, .imul, 117, 0), (117, .aload_n 0, 118, 0), (118, .getfield 190, 121, 0), (121, .iload_n 3, 122, 0), (122, .iaload, 123, 0), (123, .iadd, 124, 0), (124, .iaload, 125, 0), (125, .if_icmp .ge 8, 128, 133), (128, .iload 4, 130, 0), (130, .goto 4, 133, 134), (133, .iload_n 3, 134, 0), (134, .istore_n 3, 135, 0), (135, .iinc 4 1, 138, 0), (138, .goto (-84), 141, 54), (141, .iload_n 3, 142, 0), (142, .ifCond .le 7, 145, 149), (145, .iconst 1, 146, 0), (146, .goto 4, 149, 150), (149, .iconst 0, 150, 0), (150, .istore_n 2, 151, 0), (151, .iload_n 2, 152, 0), (152, .ifCond .eq 45, 155, 197), (155, .aload_n 0, 156, 0), (156, .bipush 66, 158, 0), (158, .aload_n 0, 159, 0), (159, .getfield 366, 162, 0), (162, .iadd, 163, 0), (163, .iload_n 3, 164, 0), (164, .iconst 5, 165, 0), (165, .iload_n 3, 166, 0), (166, .imul, 167, 0), (167, .aload_n 0, 168, 0), (168, .getfield 190, 171, 0), (171, .iload_n 3, 172, 0), (172, .iaload, 173, 0), (173, .iadd, 174, 0), (174, .invokevirtual 372, 177, 0), (177, .aload_n 0, 178, 0), (178, .getfield 190, 181, 0), (181, .iload_n 3, 182, 0), (182, .dup2, 183, 0), (183, .iaload, 184, 0), (184, .iconst 1, 185, 0), (185, .iadd, 186, 0), (186, .iastore, 187, 0), (187, .aload_n 0, 188, 0), (188, .dup, 189, 0), (189, .getfield 366, 192, 0), (192, .iconst 1, 193, 0), (193, .iadd, 194, 0), (194, .putfield 366, 197, 0), (197, .goto (-160), 200, 37), (200, .return_, 201, 0)]
theorem T_X12_counts_ok : T_X12_counts.all (rowB cX12_counts) = true := by decide +kernel
def th_X12_counts : List (Nat × Nat) := []
def sw_X12_counts : List (Nat × (List (Int32 × Nat) × Nat)) := []
theorem sw_X12_counts_ok : ∀ q ∈ sw_X12_counts, swS cX12_counts q := fun _ h => absurd h List.not_mem_nil
def na_X12_counts : List (Nat × Nat) := [(1090, 2), (1108, 2), (1117, 4)]
def ca_X12_counts {R' : Type} (F : Nat) : List (Nat × cFn R') := [(1090, n_X12_chooses (f_X12_chooses F)), (1108, n_X12_finds (f_X12_finds F)), (1117, n_X12_lays (f_X12_lays F))]
theorem ca_X12_counts_ok {R' : Type} {q : cL} (hst : q.1.stackTraces = false) {D : Nat} (hD : 4 ≤ D) (F : Nat) : ∀ x ∈ (ca_X12_counts (R' := R') F), 1 ≤ D ∧ ceS q RX12 (D - 1) x.1 x.2 := List.forall_mem_cons.mpr ⟨⟨by omega, n_X12_chooses_ok (k := 363) (lw_good_of (tb_ok 1492 (by decide +kernel)) rfl) (fun a0 a1 M r h => c_X12_chooses hst (by omega) F a0 a1 M r h)⟩, List.forall_mem_cons.mpr ⟨⟨by omega, n_X12_finds_ok (k := 369) (lw_good_of (tb_ok 1496 (by decide +kernel)) rfl) (fun a0 a1 M r h => c_X12_finds hst (by omega) F a0 a1 M r h)⟩, List.forall_mem_cons.mpr ⟨⟨by omega, n_X12_lays_ok (k := 372) (lw_good_of (tb_ok 1532 (by decide +kernel)) rfl) (fun a0 a1 a2 a3 M r h => c_X12_lays hst (by omega) F a0 a1 a2 a3 M r h)⟩, fun _ h => absurd h List.not_mem_nil⟩⟩⟩
def kd_X12_counts_12 (g : Nat → Int32 → cM → Option (cM)) : cKf (cM) := fun vs st M => (lR vs 0).bind fun x0 => (lI vs 2).bind fun x2 => match st with
  | [] => g x0 x2 M
  | _ => none
theorem kf_X12_counts_12 {X : cCtx} {o : cO} {r : cM} {g : Nat → Int32 → cM → Option (cM)} (hg : ∀ x0 x2 M, g x0 x2 M = some r → WX X 6 o 12 [some (.ref x0), none, some (.int x2), none, none, none] [] M) : ∀ vs st M, kd_X12_counts_12 g vs st M = some r → WX X 6 o 12 vs st M := by
  intro vs st M h
  unfold kd_X12_counts_12 at h
  obtain ⟨x0, h0, h⟩ := Option.bind_eq_some_iff.mp h
  obtain ⟨x2, h2, h⟩ := Option.bind_eq_some_iff.mp h
  split at h
  · exact WX_weak (hg _ _ _ h) rfl ⟨lR_of h0, lI_of h2, trivial⟩
  · cases h
def kd_X12_counts_37 (g : Nat → Int32 → cM → Option (cM)) : cKf (cM) := fun vs st M => (lR vs 0).bind fun x0 => (lI vs 2).bind fun x2 => match st with
  | [] => g x0 x2 M
  | _ => none
theorem kf_X12_counts_37 {X : cCtx} {o : cO} {r : cM} {g : Nat → Int32 → cM → Option (cM)} (hg : ∀ x0 x2 M, g x0 x2 M = some r → WX X 6 o 37 [some (.ref x0), none, some (.int x2), none, none, none] [] M) : ∀ vs st M, kd_X12_counts_37 g vs st M = some r → WX X 6 o 37 vs st M := by
  intro vs st M h
  unfold kd_X12_counts_37 at h
  obtain ⟨x0, h0, h⟩ := Option.bind_eq_some_iff.mp h
  obtain ⟨x2, h2, h⟩ := Option.bind_eq_some_iff.mp h
  split at h
  · exact WX_weak (hg _ _ _ h) rfl ⟨lR_of h0, lI_of h2, trivial⟩
  · cases h
def kd_X12_counts_54 (g : Nat → Int32 → Int32 → cM → Option (cM)) : cKf (cM) := fun vs st M => (lR vs 0).bind fun x0 => (lI vs 3).bind fun x3 => (lI vs 4).bind fun x4 => match st with
  | [] => g x0 x3 x4 M
  | _ => none
theorem kf_X12_counts_54 {X : cCtx} {o : cO} {r : cM} {g : Nat → Int32 → Int32 → cM → Option (cM)} (hg : ∀ x0 x3 x4 M, g x0 x3 x4 M = some r → WX X 6 o 54 [some (.ref x0), none, none, some (.int x3), some (.int x4), none] [] M) : ∀ vs st M, kd_X12_counts_54 g vs st M = some r → WX X 6 o 54 vs st M := by
  intro vs st M h
  unfold kd_X12_counts_54 at h
  obtain ⟨x0, h0, h⟩ := Option.bind_eq_some_iff.mp h
  obtain ⟨x3, h3, h⟩ := Option.bind_eq_some_iff.mp h
  obtain ⟨x4, h4, h⟩ := Option.bind_eq_some_iff.mp h
  split at h
  · exact WX_weak (hg _ _ _ _ h) rfl ⟨lR_of h0, lI_of h3, lI_of h4, trivial⟩
  · cases h
def kd_X12_counts_82 (g : Nat → Int32 → Int32 → Int32 → cM → Option (cM)) : cKf (cM) := fun vs st M => (lR vs 0).bind fun x0 => (lI vs 3).bind fun x3 => (lI vs 4).bind fun x4 => match st with
  | [.int s0] => g x0 x3 x4 s0 M
  | _ => none
theorem kf_X12_counts_82 {X : cCtx} {o : cO} {r : cM} {g : Nat → Int32 → Int32 → Int32 → cM → Option (cM)} (hg : ∀ x0 x3 x4 s0 M, g x0 x3 x4 s0 M = some r → WX X 6 o 82 [some (.ref x0), none, none, some (.int x3), some (.int x4), none] [.int s0] M) : ∀ vs st M, kd_X12_counts_82 g vs st M = some r → WX X 6 o 82 vs st M := by
  intro vs st M h
  unfold kd_X12_counts_82 at h
  obtain ⟨x0, h0, h⟩ := Option.bind_eq_some_iff.mp h
  obtain ⟨x3, h3, h⟩ := Option.bind_eq_some_iff.mp h
  obtain ⟨x4, h4, h⟩ := Option.bind_eq_some_iff.mp h
  split at h
  · exact WX_weak (hg _ _ _ _ _ h) rfl ⟨lR_of h0, lI_of h3, lI_of h4, trivial⟩
  · cases h
def kd_X12_counts_150 (g : Nat → Int32 → Int32 → cM → Option (cM)) : cKf (cM) := fun vs st M => (lR vs 0).bind fun x0 => (lI vs 3).bind fun x3 => match st with
  | [.int s0] => g x0 x3 s0 M
  | _ => none
theorem kf_X12_counts_150 {X : cCtx} {o : cO} {r : cM} {g : Nat → Int32 → Int32 → cM → Option (cM)} (hg : ∀ x0 x3 s0 M, g x0 x3 s0 M = some r → WX X 6 o 150 [some (.ref x0), none, none, some (.int x3), none, none] [.int s0] M) : ∀ vs st M, kd_X12_counts_150 g vs st M = some r → WX X 6 o 150 vs st M := by
  intro vs st M h
  unfold kd_X12_counts_150 at h
  obtain ⟨x0, h0, h⟩ := Option.bind_eq_some_iff.mp h
  obtain ⟨x3, h3, h⟩ := Option.bind_eq_some_iff.mp h
  split at h
  · exact WX_weak (hg _ _ _ _ h) rfl ⟨lR_of h0, lI_of h3, trivial⟩
  · cases h
set_option maxRecDepth 20000 in
theorem e_X12_counts_150 (F : Nat) (t37 : Nat → Int32 → cM → Option (cM)) (x0 : Nat) (x3 : Int32) (s0 : Int32) (M : cM) : b_X12_counts_150 F t37 x0 x3 s0 M = run T_X12_counts P_RX12 false 5 (naL na_X12_counts) (caL (ca_X12_counts F)) (lkN th_X12_counts) (lkN sw_X12_counts) krV kxN (spL [37]) (KL [(37, kd_X12_counts_37 t37)]) 124 150 [some (.ref x0), none, none, some (.int x3), none, none] [.int s0] M := rfl
theorem ok_X12_counts_150 {X : cCtx} {D : Nat} {r : cM} (G : FX X 6 (eV r) cX12_counts RX12 5 D) {F : Nat} (hca : ∀ x ∈ (ca_X12_counts (R' := cM) F), 1 ≤ D ∧ ceS X.1 RX12 (D - 1) x.1 x.2) (k37 : Nat → Int32 → cM → Option (cM)) (hk37 : ∀ x0 x2 M, k37 x0 x2 M = some r → WX X 6 (eV r) 37 [some (.ref x0), none, some (.int x2), none, none, none] [] M) : ∀ x0 x3 s0 M, f_X12_counts_150 F k37 x0 x3 s0 M = some r → WX X 6 (eV r) 150 [some (.ref x0), none, none, some (.int x3), none, none] [.int s0] M := by
  intro x0 x3 s0 M h
  exact seg_ok G P_RX12_ok T_X12_counts_ok hca (fun _ h => absurd h List.not_mem_nil) sw_X12_counts_ok krV_ok (kxN_ok (f := eV)) (List.forall_mem_cons.mpr ⟨kf_X12_counts_37 (hk37), fun _ h => absurd h List.not_mem_nil⟩) ((e_X12_counts_150 F (k37) x0 x3 s0 M).symm.trans h)
set_option maxRecDepth 20000 in
theorem e_X12_counts_82 (F : Nat) (t54 : Nat → Int32 → Int32 → cM → Option (cM)) (x0 : Nat) (x3 : Int32) (x4 : Int32) (s0 : Int32) (M : cM) : b_X12_counts_82 F t54 x0 x3 x4 s0 M = run T_X12_counts P_RX12 false 5 (naL na_X12_counts) (caL (ca_X12_counts F)) (lkN th_X12_counts) (lkN sw_X12_counts) krV kxN (spL [54]) (KL [(54, kd_X12_counts_54 t54)]) 124 82 [some (.ref x0), none, none, some (.int x3), some (.int x4), none] [.int s0] M := rfl
theorem ok_X12_counts_82 {X : cCtx} {D : Nat} {r : cM} (G : FX X 6 (eV r) cX12_counts RX12 5 D) {F : Nat} (hca : ∀ x ∈ (ca_X12_counts (R' := cM) F), 1 ≤ D ∧ ceS X.1 RX12 (D - 1) x.1 x.2) (k37 : Nat → Int32 → cM → Option (cM)) (k54 : Nat → Int32 → Int32 → cM → Option (cM)) (hk37 : ∀ x0 x2 M, k37 x0 x2 M = some r → WX X 6 (eV r) 37 [some (.ref x0), none, some (.int x2), none, none, none] [] M) (hk54 : ∀ x0 x3 x4 M, k54 x0 x3 x4 M = some r → WX X 6 (eV r) 54 [some (.ref x0), none, none, some (.int x3), some (.int x4), none] [] M) : ∀ x0 x3 x4 s0 M, f_X12_counts_82 F k37 k54 x0 x3 x4 s0 M = some r → WX X 6 (eV r) 82 [some (.ref x0), none, none, some (.int x3), some (.int x4), none] [.int s0] M := by
  intro x0 x3 x4 s0 M h
  exact seg_ok G P_RX12_ok T_X12_counts_ok hca (fun _ h => absurd h List.not_mem_nil) sw_X12_counts_ok krV_ok (kxN_ok (f := eV)) (List.forall_mem_cons.mpr ⟨kf_X12_counts_54 (hk54), fun _ h => absurd h List.not_mem_nil⟩) ((e_X12_counts_82 F (k54) x0 x3 x4 s0 M).symm.trans h)
set_option maxRecDepth 20000 in
theorem e_X12_counts_54 (F : Nat) (t82 : Nat → Int32 → Int32 → Int32 → cM → Option (cM)) (t150 : Nat → Int32 → Int32 → cM → Option (cM)) (x0 : Nat) (x3 : Int32) (x4 : Int32) (M : cM) : b_X12_counts_54 F t82 t150 x0 x3 x4 M = run T_X12_counts P_RX12 false 5 (naL na_X12_counts) (caL (ca_X12_counts F)) (lkN th_X12_counts) (lkN sw_X12_counts) krV kxN (spL [82, 150]) (KL [(82, kd_X12_counts_82 t82), (150, kd_X12_counts_150 t150)]) 124 54 [some (.ref x0), none, none, some (.int x3), some (.int x4), none] [] M := rfl
theorem ok_X12_counts_54 {X : cCtx} {D : Nat} {r : cM} (G : FX X 6 (eV r) cX12_counts RX12 5 D) {F : Nat} (hca : ∀ x ∈ (ca_X12_counts (R' := cM) F), 1 ≤ D ∧ ceS X.1 RX12 (D - 1) x.1 x.2) (k37 : Nat → Int32 → cM → Option (cM)) (hk37 : ∀ x0 x2 M, k37 x0 x2 M = some r → WX X 6 (eV r) 37 [some (.ref x0), none, some (.int x2), none, none, none] [] M) (n : Nat) : ∀ x0 x3 x4 M, f_X12_counts_54 F k37 n x0 x3 x4 M = some r → WX X 6 (eV r) 54 [some (.ref x0), none, none, some (.int x3), some (.int x4), none] [] M := by
  induction n with
  | zero => intro x0 x3 x4 M h; cases h
  | succ n ih =>
    intro x0 x3 x4 M h
    exact seg_ok G P_RX12_ok T_X12_counts_ok hca (fun _ h => absurd h List.not_mem_nil) sw_X12_counts_ok krV_ok (kxN_ok (f := eV)) (List.forall_mem_cons.mpr ⟨kf_X12_counts_82 (ok_X12_counts_82 G hca k37 (f_X12_counts_54 F k37 n) hk37 ih), List.forall_mem_cons.mpr ⟨kf_X12_counts_150 (ok_X12_counts_150 G hca k37 hk37), fun _ h => absurd h List.not_mem_nil⟩⟩) ((e_X12_counts_54 F (f_X12_counts_82 F k37 (f_X12_counts_54 F k37 n)) (f_X12_counts_150 F k37) x0 x3 x4 M).symm.trans h)
set_option maxRecDepth 20000 in
theorem e_X12_counts_37 (F : Nat) (t54 : Nat → Int32 → Int32 → cM → Option (cM)) (x0 : Nat) (x2 : Int32) (M : cM) : b_X12_counts_37 F t54 x0 x2 M = run T_X12_counts P_RX12 false 5 (naL na_X12_counts) (caL (ca_X12_counts F)) (lkN th_X12_counts) (lkN sw_X12_counts) krV kxN (spL [54]) (KL [(54, kd_X12_counts_54 t54)]) 124 37 [some (.ref x0), none, some (.int x2), none, none, none] [] M := rfl
theorem ok_X12_counts_37 {X : cCtx} {D : Nat} {r : cM} (G : FX X 6 (eV r) cX12_counts RX12 5 D) {F : Nat} (hca : ∀ x ∈ (ca_X12_counts (R' := cM) F), 1 ≤ D ∧ ceS X.1 RX12 (D - 1) x.1 x.2) (n : Nat) : ∀ x0 x2 M, f_X12_counts_37 F n x0 x2 M = some r → WX X 6 (eV r) 37 [some (.ref x0), none, some (.int x2), none, none, none] [] M := by
  induction n with
  | zero => intro x0 x2 M h; cases h
  | succ n ih =>
    intro x0 x2 M h
    exact seg_ok G P_RX12_ok T_X12_counts_ok hca (fun _ h => absurd h List.not_mem_nil) sw_X12_counts_ok krV_ok (kxN_ok (f := eV)) (List.forall_mem_cons.mpr ⟨kf_X12_counts_54 (ok_X12_counts_54 G hca (f_X12_counts_37 F n) ih F), fun _ h => absurd h List.not_mem_nil⟩) ((e_X12_counts_37 F (f_X12_counts_54 F (f_X12_counts_37 F n) F) x0 x2 M).symm.trans h)
set_option maxRecDepth 20000 in
theorem e_X12_counts_12 (F : Nat) (t12 : Nat → Int32 → cM → Option (cM)) (t37 : Nat → Int32 → cM → Option (cM)) (x0 : Nat) (x2 : Int32) (M : cM) : b_X12_counts_12 F t12 t37 x0 x2 M = run T_X12_counts P_RX12 false 5 (naL na_X12_counts) (caL (ca_X12_counts F)) (lkN th_X12_counts) (lkN sw_X12_counts) krV kxN (spL [12, 37]) (KL [(12, kd_X12_counts_12 t12), (37, kd_X12_counts_37 t37)]) 124 12 [some (.ref x0), none, some (.int x2), none, none, none] [] M := rfl
theorem ok_X12_counts_12 {X : cCtx} {D : Nat} {r : cM} (G : FX X 6 (eV r) cX12_counts RX12 5 D) {F : Nat} (hca : ∀ x ∈ (ca_X12_counts (R' := cM) F), 1 ≤ D ∧ ceS X.1 RX12 (D - 1) x.1 x.2) (n : Nat) : ∀ x0 x2 M, f_X12_counts_12 F n x0 x2 M = some r → WX X 6 (eV r) 12 [some (.ref x0), none, some (.int x2), none, none, none] [] M := by
  induction n with
  | zero => intro x0 x2 M h; cases h
  | succ n ih =>
    intro x0 x2 M h
    exact seg_ok G P_RX12_ok T_X12_counts_ok hca (fun _ h => absurd h List.not_mem_nil) sw_X12_counts_ok krV_ok (kxN_ok (f := eV)) (List.forall_mem_cons.mpr ⟨kf_X12_counts_12 (ih), List.forall_mem_cons.mpr ⟨kf_X12_counts_37 (ok_X12_counts_37 G hca F), fun _ h => absurd h List.not_mem_nil⟩⟩) ((e_X12_counts_12 F (f_X12_counts_12 F n) (f_X12_counts_37 F F) x0 x2 M).symm.trans h)
set_option maxRecDepth 20000 in
theorem e_X12_counts_0 (F : Nat) (t12 : Nat → Int32 → cM → Option (cM)) (x0 : Nat) (x1 : Int32) (M : cM) : b_X12_counts_0 F t12 x0 x1 M = run T_X12_counts P_RX12 false 5 (naL na_X12_counts) (caL (ca_X12_counts F)) (lkN th_X12_counts) (lkN sw_X12_counts) krV kxN (spL [12]) (KL [(12, kd_X12_counts_12 t12)]) 124 0 [some (.ref x0), some (.int x1), none, none, none, none] [] M := rfl
theorem ok_X12_counts_0 {X : cCtx} {D : Nat} {r : cM} (G : FX X 6 (eV r) cX12_counts RX12 5 D) {F : Nat} (hca : ∀ x ∈ (ca_X12_counts (R' := cM) F), 1 ≤ D ∧ ceS X.1 RX12 (D - 1) x.1 x.2) : ∀ x0 x1 M, f_X12_counts_0 F x0 x1 M = some r → WX X 6 (eV r) 0 [some (.ref x0), some (.int x1), none, none, none, none] [] M := by
  intro x0 x1 M h
  exact seg_ok G P_RX12_ok T_X12_counts_ok hca (fun _ h => absurd h List.not_mem_nil) sw_X12_counts_ok krV_ok (kxN_ok (f := eV)) (List.forall_mem_cons.mpr ⟨kf_X12_counts_12 (ok_X12_counts_12 G hca F), fun _ h => absurd h List.not_mem_nil⟩) ((e_X12_counts_0 F (f_X12_counts_12 F F) x0 x1 M).symm.trans h)
theorem c_X12_counts {q : cL} (hst : q.1.stackTraces = false) {D : Nat} (hD : 4 ≤ D) (F : Nat) (a0 : Nat) (a1 : Int32) (M : cM) (r : cM) (h : f_X12_counts F a0 a1 M = some r) : CTx q yX12_counts (.code yX12_counts cX12_counts 6 none) D [.ref a0, .int a1] M (eV r) ∧ ∃ fs, M[a0]? = some (.inr (10, fs)) := by
  unfold f_X12_counts at h
  split at h
  · next hi => exact ⟨CTx_of (own := RX12) (rk := 5) hst (by decide +kernel) rfl (rfl) (Nat.le_of_ble_eq_true rfl) (fun X hX G => by subst hX; exact ok_X12_counts_0 G (ca_X12_counts_ok hst hD F) a0 a1 M h), isC_of hi⟩
  · cases h
def n_X12_counts {R' : Type} (f : Nat → Int32 → cM → Option (cM)) : cFn R' := fun as M κ κx => match as with
  | [.ref a0, .int a1] => (f a0 a1 M).bind fun p => κ none p
  | _ => none
theorem w_X12_counts : ∀ w ∈ [Cond.instanceMethod yX12_counts, .selects yX12_counts.cls yX12_counts yX12_counts, .initialized yX12_counts.cls, .code yX12_counts cX12_counts 6 none], w ∈ lw_good := List.forall_mem_cons.mpr ⟨lw_good_of (tb_ok 1490 (by decide +kernel)) rfl, List.forall_mem_cons.mpr ⟨lw_good_of (ts_ok 52 (by decide +kernel)) rfl, List.forall_mem_cons.mpr ⟨lw_good_of (tb_ok 11 (by decide +kernel)) rfl, List.forall_mem_cons.mpr ⟨lw_good_of (tb_ok 1491 (by decide +kernel)) rfl, fun _ h => absurd h List.not_mem_nil⟩⟩⟩⟩
theorem n_X12_counts_ok {R' : Type} {q : cL} {own : String} {d k : Nat} {f : Nat → Int32 → cM → Option (cM)} (hl : Cond.methodLink own k yX12_counts ∈ lw_good) (hf : ∀ a0 a1 M r, f a0 a1 M = some r → CTx q yX12_counts (.code yX12_counts cX12_counts 6 none) d [.ref a0, .int a1] M (eV r) ∧ ∃ fs, M[a0]? = some (.inr (10, fs))) : ceS q own d (3 * k + 1) (n_X12_counts (R' := R') f) := by
  intro as M κ κx r h
  unfold n_X12_counts at h
  split at h
  · obtain ⟨p, h1, h2⟩ := Option.bind_eq_some_iff.mp h
    obtain ⟨hc, fs, ha⟩ := hf _ _ _ _ h1
    exact ⟨eV p, fun _ => h2, fun hne => absurd rfl hne, Or.inr (Or.inl ⟨yX12_counts, cX12_counts, 6, none, k, 1, _, _, 10, TX12, 76, fs, rfl, rfl, hc, ha, rfl, List.forall_mem_cons.mpr ⟨hl, w_X12_counts⟩, ⟨rfl, by decide +kernel, by decide +kernel, by decide +kernel⟩, rfl, by decide⟩)⟩
  · cases h
