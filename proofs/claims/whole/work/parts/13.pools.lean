/-! POOLS: what each class's constant pool holds, and its words (laid by wip/whole/tools/gen.py) -/
theorem wl_ok {L : List Cond} (h : L.all (fun w => decide (w ∈ lw_tbl) && goodWord w) = true) : ∀ w ∈ L, w ∈ lw_good := fun w hw => by
  have h1 := List.all_eq_true.mp h w hw
  rw [Bool.and_eq_true] at h1
  exact lw_good_of (of_decide_eq_true h1.1) h1.2
theorem ml_ok (own : String) (k : Nat) (y : MethodName) (h : Cond.methodLink own k y ∈ lw_tbl) : Cond.methodLink own k y ∈ lw_good := lw_good_of h rfl
def P_RJ6 : cP := poL [(265, 1431655765), (266, 858993459), (267, 252645135)] [] [] [] []
theorem P_RJ6_ok : pOK RJ6 P_RJ6 := poL_ok (List.forall_mem_cons.mpr ⟨lw_good_of (by decide +kernel) rfl, List.forall_mem_cons.mpr ⟨lw_good_of (by decide +kernel) rfl, List.forall_mem_cons.mpr ⟨lw_good_of (by decide +kernel) rfl, fun _ h => absurd h List.not_mem_nil⟩⟩⟩) (fun _ h => absurd h List.not_mem_nil) (by decide +kernel)
def P_RJ9 : cP := poL [] [] [] [] []
theorem P_RJ9_ok : pOK RJ9 P_RJ9 := poL_ok (fun _ h => absurd h List.not_mem_nil) (fun _ h => absurd h List.not_mem_nil) (by decide +kernel)
def P_RX0 : cP := poL [(27, 268435456)] [] [(15, (8, 2, 0))] [] []
theorem P_RX0_ok : pOK RX0 P_RX0 := poL_ok (List.forall_mem_cons.mpr ⟨lw_good_of (by decide +kernel) rfl, fun _ h => absurd h List.not_mem_nil⟩) (fun _ h => absurd h List.not_mem_nil) (by decide +kernel)
def P_RX1 : cP := poL [] [] [(10, (0, 0, 22)), (16, (0, 1, 22)), (19, (0, 2, 22)), (25, (0, 3, 22)), (30, (0, 4, 22)), (33, (0, 5, 22)), (36, (0, 6, 22)), (39, (0, 7, 22)), (50, (8, 2, 0))] [] []
theorem P_RX1_ok : pOK RX1 P_RX1 := poL_ok (fun _ h => absurd h List.not_mem_nil) (fun _ h => absurd h List.not_mem_nil) (by decide +kernel)
def P_RX2 : cP := poL [] [(172, -1), (178, -7046029254386353131), (187, 11), (189, 21)] [(19, (1, 0, 22)), (26, (1, 2, 22)), (30, (1, 5, 22)), (34, (1, 6, 22)), (37, (1, 8, 22)), (41, (1, 9, 22)), (44, (1, 10, 22)), (47, (1, 12, 22)), (50, (1, 13, 22)), (54, (1, 3, 3)), (58, (1, 4, 0)), (62, (7, 3, 0)), (65, (6, 0, 12)), (69, (7, 0, 12)), (73, (7, 1, 12)), (82, (1, 7, 4)), (86, (7, 7, 12)), (98, (1, 11, 1)), (102, (1, 1, 0)), (109, (6, 2, 0)), (112, (6, 1, 12)), (115, (0, 1, 12)), (118, (8, 2, 0)), (132, (6, 4, 12)), (138, (6, 11, 0)), (141, (6, 9, 12)), (144, (6, 10, 12)), (147, (6, 8, 12)), (157, (6, 5, 12)), (160, (6, 6, 12)), (209, (6, 7, 0)), (212, (6, 3, 12))] [] []
theorem P_RX2_ok : pOK RX2 P_RX2 := poL_ok (fun _ h => absurd h List.not_mem_nil) (List.forall_mem_cons.mpr ⟨lw_good_of (by decide +kernel) rfl, List.forall_mem_cons.mpr ⟨lw_good_of (by decide +kernel) rfl, List.forall_mem_cons.mpr ⟨lw_good_of (by decide +kernel) rfl, List.forall_mem_cons.mpr ⟨lw_good_of (by decide +kernel) rfl, fun _ h => absurd h List.not_mem_nil⟩⟩⟩⟩) (by decide +kernel)
def P_RX3 : cP := poL [] [] [(12, (2, 0, 22)), (20, (2, 1, 22)), (24, (2, 2, 22)), (31, (2, 3, 22)), (35, (2, 4, 22)), (39, (7, 12, 4)), (43, (7, 11, 0)), (47, (7, 3, 0)), (62, (1, 1, 0)), (65, (7, 10, 12)), (68, (1, 0, 12)), (79, (7, 8, 12)), (103, (3, 2, 4)), (117, (7, 0, 12))] [] []
theorem P_RX3_ok : pOK RX3 P_RX3 := poL_ok (fun _ h => absurd h List.not_mem_nil) (fun _ h => absurd h List.not_mem_nil) (by decide +kernel)
def P_RX4 : cP := poL [] [] [(12, (3, 0, 22)), (18, (3, 1, 22)), (21, (3, 3, 0)), (47, (3, 2, 4))] [] []
theorem P_RX4_ok : pOK RX4 P_RX4 := poL_ok (fun _ h => absurd h List.not_mem_nil) (fun _ h => absurd h List.not_mem_nil) (by decide +kernel)
def P_RX5 : cP := poL [] [] [(12, (4, 0, 22)), (18, (4, 1, 22)), (21, (4, 2, 22)), (31, (4, 3, 0))] [] []
theorem P_RX5_ok : pOK RX5 P_RX5 := poL_ok (fun _ h => absurd h List.not_mem_nil) (fun _ h => absurd h List.not_mem_nil) (by decide +kernel)
def P_RX6 : cP := poL [] [] [(9, (5, 0, 22)), (15, (5, 1, 0))] [] []
theorem P_RX6_ok : pOK RX6 P_RX6 := poL_ok (fun _ h => absurd h List.not_mem_nil) (fun _ h => absurd h List.not_mem_nil) (by decide +kernel)
def P_RX7 : cP := poL [] [] [] [] []
theorem P_RX7_ok : pOK RX7 P_RX7 := poL_ok (fun _ h => absurd h List.not_mem_nil) (fun _ h => absurd h List.not_mem_nil) (by decide +kernel)
def P_RX8 : cP := poL [] [] [(19, (6, 0, 22)), (23, (6, 1, 22)), (26, (6, 3, 22)), (30, (6, 4, 22)), (33, (6, 5, 22)), (36, (6, 6, 22)), (39, (6, 8, 22)), (42, (6, 9, 22)), (45, (6, 10, 22)), (48, (6, 12, 22)), (51, (6, 13, 22)), (55, (6, 2, 0)), (59, (6, 7, 0)), (62, (6, 11, 0)), (117, (0, 1, 12)), (121, (8, 2, 0))] [] []
theorem P_RX8_ok : pOK RX8 P_RX8 := poL_ok (fun _ h => absurd h List.not_mem_nil) (fun _ h => absurd h List.not_mem_nil) (by decide +kernel)
def P_RX9 : cP := poL [] [] [(13, (7, 0, 22)), (17, (7, 1, 22)), (20, (7, 2, 22)), (24, (7, 4, 22)), (27, (7, 5, 22)), (30, (7, 7, 22)), (48, (7, 3, 0)), (62, (7, 12, 4)), (66, (7, 6, 0))] [] []
theorem P_RX9_ok : pOK RX9 P_RX9 := poL_ok (fun _ h => absurd h List.not_mem_nil) (fun _ h => absurd h List.not_mem_nil) (by decide +kernel)
def P_RX10 : cP := poL [] [] [(11, (8, 0, 22)), (17, (8, 1, 22)), (21, (8, 2, 0))] [] []
theorem P_RX10_ok : pOK RX10 P_RX10 := poL_ok (fun _ h => absurd h List.not_mem_nil) (fun _ h => absurd h List.not_mem_nil) (by decide +kernel)
def P_RX11 : cP := poL [] [] [(10, (9, 0, 22)), (16, (9, 1, 22)), (21, (9, 2, 22)), (28, (9, 3, 22)), (35, (9, 4, 22)), (40, (9, 5, 22)), (47, (9, 6, 22)), (64, (8, 2, 0)), (76, (9, 7, 0)), (81, (9, 8, 0)), (97, (7, 9, 4)), (109, (4, 1, 12)), (132, (7, 3, 0)), (155, (7, 8, 12)), (165, (7, 6, 0)), (215, (3, 2, 4)), (221, (7, 11, 0)), (226, (7, 10, 12)), (237, (3, 3, 0)), (242, (3, 1, 12)), (246, (3, 0, 12)), (249, (5, 1, 0)), (250, (5, 0, 12)), (272, (9, 9, 0)), (294, (4, 0, 12)), (299, (4, 3, 0)), (302, (4, 2, 12)), (315, (7, 1, 12))] [] []
theorem P_RX11_ok : pOK RX11 P_RX11 := poL_ok (fun _ h => absurd h List.not_mem_nil) (fun _ h => absurd h List.not_mem_nil) (by decide +kernel)
def P_RX12 : cP := poL [] [] [(7, (10, 2, 22)), (13, (10, 4, 22)), (16, (10, 5, 22)), (19, (10, 6, 22)), (22, (10, 7, 22)), (25, (10, 8, 22)), (28, (10, 9, 22)), (31, (10, 10, 22)), (34, (10, 11, 22)), (37, (10, 12, 22)), (40, (10, 13, 22)), (43, (10, 14, 22)), (46, (10, 15, 22)), (49, (10, 16, 22)), (52, (10, 17, 22)), (55, (10, 18, 22)), (58, (10, 19, 22)), (61, (10, 20, 22)), (64, (10, 21, 22)), (67, (10, 22, 22)), (70, (10, 23, 22)), (73, (10, 24, 22)), (77, (10, 25, 22)), (80, (10, 26, 22)), (83, (10, 28, 22)), (86, (10, 29, 22)), (89, (10, 31, 22)), (92, (10, 32, 22)), (95, (10, 33, 22)), (98, (10, 34, 22)), (101, (10, 35, 22)), (104, (10, 36, 22)), (107, (10, 37, 22)), (110, (10, 39, 22)), (113, (10, 41, 22)), (116, (10, 42, 22)), (119, (10, 43, 22)), (122, (10, 44, 22)), (125, (10, 46, 22)), (128, (10, 48, 22)), (131, (10, 49, 22)), (134, (10, 51, 22)), (137, (10, 52, 22)), (140, (10, 53, 22)), (143, (10, 55, 22)), (146, (10, 58, 22)), (149, (10, 59, 22)), (152, (10, 60, 22)), (156, (10, 62, 22)), (159, (10, 63, 22)), (162, (10, 64, 22)), (165, (10, 66, 22)), (169, (10, 67, 22)), (172, (10, 68, 22)), (175, (10, 69, 22)), (178, (10, 70, 22)), (181, (10, 71, 22)), (184, (10, 72, 22)), (187, (10, 73, 22)), (190, (10, 74, 22)), (193, (10, 75, 22)), (196, (10, 0, 0)), (204, (10, 3, 0)), (214, (10, 40, 0)), (228, (10, 45, 0)), (269, (10, 1, 0)), (272, (10, 27, 0)), (296, (10, 47, 0)), (303, (10, 56, 0)), (309, (10, 50, 0)), (323, (10, 57, 0)), (326, (10, 61, 0)), (329, (10, 54, 0)), (339, (10, 65, 0)), (366, (10, 38, 0)), (400, (10, 30, 0))] [] []
theorem P_RX12_ok : pOK RX12 P_RX12 := poL_ok (fun _ h => absurd h List.not_mem_nil) (fun _ h => absurd h List.not_mem_nil) (by decide +kernel)
theorem thk_RX11_1_61 {is : Nat} {text : String} (h : (RX11, is, text) ∈ cStrs) : thOK RX11 1 57 61 is text := ⟨by decide, lw_good_of (by decide +kernel) rfl, lw_good_of (by decide +kernel) rfl, fun w hw => by
  have h1 : w ∈ lw_tbl := (by decide +kernel : ∀ w ∈ vx_atS RX11 61 (eName 1) ["java/lang/RuntimeException", "java/lang/Exception"], w ∈ lw_tbl) w hw
  have h2 := (by decide +kernel : ∀ w ∈ vx_atS RX11 61 (eName 1) ["java/lang/RuntimeException", "java/lang/Exception"], goodWord w = true ∨ (match w with | .declares _ => true | .castable _ _ => true | _ => false) = true) w hw
  rcases h2 with h2 | h2
  · exact Or.inl (lw_good_of h1 h2)
  · exact Or.inr (List.mem_filter.mpr ⟨h1, h2⟩), by decide +kernel, h⟩
theorem thk_RX11_2_72 {is : Nat} {text : String} (h : (RX11, is, text) ∈ cStrs) : thOK RX11 2 68 72 is text := ⟨by decide, lw_good_of (by decide +kernel) rfl, lw_good_of (by decide +kernel) rfl, fun w hw => by
  have h1 : w ∈ lw_tbl := (by decide +kernel : ∀ w ∈ vx_atS RX11 72 (eName 2) ["java/lang/RuntimeException", "java/lang/Exception"], w ∈ lw_tbl) w hw
  have h2 := (by decide +kernel : ∀ w ∈ vx_atS RX11 72 (eName 2) ["java/lang/RuntimeException", "java/lang/Exception"], goodWord w = true ∨ (match w with | .declares _ => true | .castable _ _ => true | _ => false) = true) w hw
  rcases h2 with h2 | h2
  · exact Or.inl (lw_good_of h1 h2)
  · exact Or.inr (List.mem_filter.mpr ⟨h1, h2⟩), by decide +kernel, h⟩
theorem thk_RX11_3_116 {is : Nat} {text : String} (h : (RX11, is, text) ∈ cStrs) : thOK RX11 3 112 116 is text := ⟨by decide, lw_good_of (by decide +kernel) rfl, lw_good_of (by decide +kernel) rfl, fun w hw => by
  have h1 : w ∈ lw_tbl := (by decide +kernel : ∀ w ∈ vx_atS RX11 116 (eName 3) ["java/lang/RuntimeException", "java/lang/Exception"], w ∈ lw_tbl) w hw
  have h2 := (by decide +kernel : ∀ w ∈ vx_atS RX11 116 (eName 3) ["java/lang/RuntimeException", "java/lang/Exception"], goodWord w = true ∨ (match w with | .declares _ => true | .castable _ _ => true | _ => false) = true) w hw
  rcases h2 with h2 | h2
  · exact Or.inl (lw_good_of h1 h2)
  · exact Or.inr (List.mem_filter.mpr ⟨h1, h2⟩), by decide +kernel, h⟩
