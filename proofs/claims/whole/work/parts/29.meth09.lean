/-! METHODS, part 9 (laid by wip/whole/tools/gen.py) -/
-- PatchbayScript.refuse(II)I
def T_X11_refuse : List cRow := [(0, .aload_n 0, 1, 0), (1, .iload_n 1, 2, 0), (2, .invokevirtual 127, 5, 0), (5, .aload_n 0, 6, 0), (6, .iload_n 2, 7, 0), (7, .invokevirtual 105, 10, 0), (10, .aload_n 0, 11, 0), (11, .getfield 21, 14, 0), (14, .iload_n 1, 15, 0), (15, .aaload, 16, 0), (16, .astore_n 3, 17, 0), (17, .aload_n 0, 18, 0), (18, .getfield 28, 21, 0), (21, .iload_n 2, 22, 0), (22, .aaload, 23, 0), (23, .getfield 109, 26, 0), (26, .astore 4, 28, 0), (28, .aload_n 3, 29, 0), (29, .getfield 155, 32, 0), (32, .aload 4, 34, 0), (34, .aload_n 0, 35, 0), (35, .getfield 16, 38, 0), (38, .invokevirtual 159, 41, 0), (41, .ifCond .ne 13, 44, 54), (44, .new 68, 47, 0), (54, .aload_n 3, 55, 0), (55, .getfield 165, 58, 0), (58, .iconst 4, 59, 0), (59, .if_icmp .lt 13, 62, 72), (62, .new 68, 65, 0), (72, .aload_n 3, 73, 0), (73, .aload 4, 75, 0), (75, .aload_n 0, 76, 0), (76, .getfield 16, 79, 0), (79, .invokevirtual 170, 82, 0), (82, .aload_n 3, 83, 0), (83, .getfield 165, 86, 0), (86, .ireturn, 87, 0)]
theorem T_X11_refuse_ok : T_X11_refuse.all (rowB cX11_refuse) = true := by decide +kernel
def th_X11_refuse : List (Nat × Nat) := [(44, 2), (62, 2)]
theorem th_X11_refuse_ok {D : Nat} (hD : 6 ≤ D) : ∀ q ∈ th_X11_refuse, 6 ≤ D ∧ thS RX11 cX11_refuse q := List.forall_mem_cons.mpr ⟨⟨hD, ⟨68, 72, 163, "nothing is made that could be refused", thk_RX11_2_72 (by decide), by decide +kernel, by decide +kernel, Or.inl ⟨by decide +kernel, by decide +kernel, by decide +kernel⟩⟩⟩, List.forall_mem_cons.mpr ⟨⟨hD, ⟨68, 72, 168, "the task has as many refusals as it may have", thk_RX11_2_72 (by decide), by decide +kernel, by decide +kernel, Or.inl ⟨by decide +kernel, by decide +kernel, by decide +kernel⟩⟩⟩, fun _ h => absurd h List.not_mem_nil⟩⟩
def sw_X11_refuse : List (Nat × (List (Int32 × Nat) × Nat)) := []
theorem sw_X11_refuse_ok : ∀ q ∈ sw_X11_refuse, swS cX11_refuse q := fun _ h => absurd h List.not_mem_nil
def na_X11_refuse : List (Nat × Nat) := [(382, 2), (316, 2), (478, 3), (511, 3)]
def ca_X11_refuse {R' : Type} (F : Nat) : List (Nat × cFn R') := [(382, n_X11_needTask (f_X11_needTask F)), (316, n_X11_needLine (f_X11_needLine F)), (478, n_X4_makes (f_X4_makes F)), (511, n_X9_addRefusal (f_X9_addRefusal F))]
theorem ca_X11_refuse_ok {R' : Type} {q : cL} (hst : q.1.stackTraces = false) {D : Nat} (hD : 7 ≤ D) (F : Nat) : ∀ x ∈ (ca_X11_refuse (R' := R') F), 1 ≤ D ∧ ceS q RX11 (D - 1) x.1 x.2 := List.forall_mem_cons.mpr ⟨⟨by omega, n_X11_needTask_ok (k := 127) (lw_good_of (tb_ok 685 (by decide +kernel)) rfl) (fun a0 a1 M r h => c_X11_needTask hst (by omega) F a0 a1 M r h)⟩, List.forall_mem_cons.mpr ⟨⟨by omega, n_X11_needLine_ok (k := 105) (lw_good_of (tb_ok 640 (by decide +kernel)) rfl) (fun a0 a1 M r h => c_X11_needLine hst (by omega) F a0 a1 M r h)⟩, List.forall_mem_cons.mpr ⟨⟨by omega, n_X4_makes_ok (k := 159) (lw_good_of (tb_ok 554 (by decide +kernel)) rfl) (fun a0 a1 a2 M r h => c_X4_makes hst (by omega) F a0 a1 a2 M r h)⟩, List.forall_mem_cons.mpr ⟨⟨by omega, n_X9_addRefusal_ok (k := 170) (lw_good_of (tb_ok 713 (by decide +kernel)) rfl) (fun a0 a1 a2 M r h => c_X9_addRefusal hst (by omega) F a0 a1 a2 M r h)⟩, fun _ h => absurd h List.not_mem_nil⟩⟩⟩⟩
set_option maxRecDepth 20000 in
theorem e_X11_refuse_0 (F : Nat) (x0 : Nat) (x1 : Int32) (x2 : Int32) (M : cM) : b_X11_refuse_0 F x0 x1 x2 M = run T_X11_refuse P_RX11 false 0 (naL na_X11_refuse) (caL (ca_X11_refuse F)) (lkN th_X11_refuse) (lkN sw_X11_refuse) krTI kxTI (spL []) (KL []) 41 0 [some (.ref x0), some (.int x1), some (.int x2), none, none] [] M := rfl
theorem ok_X11_refuse_0 {X : cCtx} {D : Nat} {r : Nat × Int32 × cM} (G : FX X 5 (eTI r) cX11_refuse RX11 0 D) (h6 : 6 ≤ D) {F : Nat} (hca : ∀ x ∈ (ca_X11_refuse (R' := Nat × Int32 × cM) F), 1 ≤ D ∧ ceS X.1 RX11 (D - 1) x.1 x.2) : ∀ x0 x1 x2 M, f_X11_refuse_0 F x0 x1 x2 M = some r → WX X 5 (eTI r) 0 [some (.ref x0), some (.int x1), some (.int x2), none, none] [] M := by
  intro x0 x1 x2 M h
  exact seg_ok G P_RX11_ok T_X11_refuse_ok hca (th_X11_refuse_ok h6) sw_X11_refuse_ok krTI_ok kxTI_ok (fun _ h => absurd h List.not_mem_nil) ((e_X11_refuse_0 F x0 x1 x2 M).symm.trans h)
theorem c_X11_refuse {q : cL} (hst : q.1.stackTraces = false) {D : Nat} (hD : 7 ≤ D) (F : Nat) (a0 : Nat) (a1 : Int32) (a2 : Int32) (M : cM) (r : Nat × Int32 × cM) (h : f_X11_refuse F a0 a1 a2 M = some r) : CTx q yX11_refuse (.code yX11_refuse cX11_refuse 5 (some .int)) D [.ref a0, .int a1, .int a2] M (eTI r) ∧ ∃ fs, M[a0]? = some (.inr (9, fs)) := by
  unfold f_X11_refuse at h
  split at h
  · next hi => exact ⟨CTx_of (own := RX11) (rk := 0) hst (by decide +kernel) rfl (rfl) (Nat.le_of_ble_eq_true rfl) (fun X hX G => by subst hX; exact ok_X11_refuse_0 G (by omega) (ca_X11_refuse_ok hst hD F) a0 a1 a2 M h), isC_of hi⟩
  · cases h
-- PatchbayScript.atomToPin(IIII)I
def T_X11_atomToPin : List cRow := [(0, .iload_n 1, 1, 0), (1, .tableswitch 51 0 2 #[27, 35, 43], 2, 0), (28, .aload_n 0, 29, 0), (29, .getfield 10, 32, 0), (32, .invokestatic 279, 35, 0), (35, .ireturn, 36, 0), (36, .iload_n 2, 37, 0), (37, .iload_n 3, 38, 0), (38, .iload 4, 40, 0), (40, .invokestatic 283, 43, 0), (43, .ireturn, 44, 0), (44, .iload_n 2, 45, 0), (45, .iload_n 3, 46, 0), (46, .iload 4, 48, 0), (48, .invokestatic 287, 51, 0), (51, .ireturn, 52, 0), (52, .iconst (-1), 53, 0), (53, .ireturn, 54, 0)]
theorem T_X11_atomToPin_ok : T_X11_atomToPin.all (rowB cX11_atomToPin) = true := by decide +kernel
def th_X11_atomToPin : List (Nat × Nat) := []
def sw_X11_atomToPin : List (Nat × (List (Int32 × Nat) × Nat)) := [(1, ([(0, 28), (1, 36), (2, 44)], 52))]
theorem sw_X11_atomToPin_ok : ∀ q ∈ sw_X11_atomToPin, swS cX11_atomToPin q := List.forall_mem_cons.mpr ⟨⟨.tableswitch 51 0 2 #[27, 35, 43], 27, by decide +kernel⟩, fun _ h => absurd h List.not_mem_nil⟩
def na_X11_atomToPin : List (Nat × Nat) := [(837, 1), (849, 3), (861, 3)]
def ca_X11_atomToPin {R' : Type} (F : Nat) : List (Nat × cFn R') := [(837, n_X0_constOf (f_X0_constOf F)), (849, n_X0_cut (f_X0_cut F)), (861, n_X0_each (f_X0_each F))]
theorem ca_X11_atomToPin_ok {R' : Type} {q : cL} (hst : q.1.stackTraces = false) {D : Nat} (hD : 2 ≤ D) (F : Nat) : ∀ x ∈ (ca_X11_atomToPin (R' := R') F), 1 ≤ D ∧ ceS q RX11 (D - 1) x.1 x.2 := List.forall_mem_cons.mpr ⟨⟨by omega, n_X0_constOf_ok (k := 279) (lw_good_of (tb_ok 738 (by decide +kernel)) rfl) (fun a0 M r h => c_X0_constOf hst (by omega) F a0 M r h)⟩, List.forall_mem_cons.mpr ⟨⟨by omega, n_X0_cut_ok (k := 283) (lw_good_of (tb_ok 744 (by decide +kernel)) rfl) (fun a0 a1 a2 M r h => c_X0_cut hst (by omega) F a0 a1 a2 M r h)⟩, List.forall_mem_cons.mpr ⟨⟨by omega, n_X0_each_ok (k := 287) (lw_good_of (tb_ok 747 (by decide +kernel)) rfl) (fun a0 a1 a2 M r h => c_X0_each hst (by omega) F a0 a1 a2 M r h)⟩, fun _ h => absurd h List.not_mem_nil⟩⟩⟩
set_option maxRecDepth 20000 in
theorem e_X11_atomToPin_0 (F : Nat) (x0 : Nat) (x1 : Int32) (x2 : Int32) (x3 : Int32) (x4 : Int32) (M : cM) : b_X11_atomToPin_0 F x0 x1 x2 x3 x4 M = run T_X11_atomToPin P_RX11 false 0 (naL na_X11_atomToPin) (caL (ca_X11_atomToPin F)) (lkN th_X11_atomToPin) (lkN sw_X11_atomToPin) krI kxN (spL []) (KL []) 21 0 [some (.ref x0), some (.int x1), some (.int x2), some (.int x3), some (.int x4)] [] M := rfl
theorem ok_X11_atomToPin_0 {X : cCtx} {D : Nat} {r : Int32 × cM} (G : FX X 5 (eI r) cX11_atomToPin RX11 0 D) {F : Nat} (hca : ∀ x ∈ (ca_X11_atomToPin (R' := Int32 × cM) F), 1 ≤ D ∧ ceS X.1 RX11 (D - 1) x.1 x.2) : ∀ x0 x1 x2 x3 x4 M, f_X11_atomToPin_0 F x0 x1 x2 x3 x4 M = some r → WX X 5 (eI r) 0 [some (.ref x0), some (.int x1), some (.int x2), some (.int x3), some (.int x4)] [] M := by
  intro x0 x1 x2 x3 x4 M h
  exact seg_ok G P_RX11_ok T_X11_atomToPin_ok hca (fun _ h => absurd h List.not_mem_nil) sw_X11_atomToPin_ok krI_ok (kxN_ok (f := eI)) (fun _ h => absurd h List.not_mem_nil) ((e_X11_atomToPin_0 F x0 x1 x2 x3 x4 M).symm.trans h)
theorem c_X11_atomToPin {q : cL} (hst : q.1.stackTraces = false) {D : Nat} (hD : 2 ≤ D) (F : Nat) (a0 : Nat) (a1 : Int32) (a2 : Int32) (a3 : Int32) (a4 : Int32) (M : cM) (r : Int32 × cM) (h : f_X11_atomToPin F a0 a1 a2 a3 a4 M = some r) : CTx q yX11_atomToPin (.code yX11_atomToPin cX11_atomToPin 5 (some .int)) D [.ref a0, .int a1, .int a2, .int a3, .int a4] M (eI r) ∧ ∃ fs, M[a0]? = some (.inr (9, fs)) := by
  unfold f_X11_atomToPin at h
  split at h
  · next hi => exact ⟨CTx_of (own := RX11) (rk := 0) hst (by decide +kernel) rfl (rfl) (Nat.le_of_ble_eq_true rfl) (fun X hX G => by subst hX; exact ok_X11_atomToPin_0 G (ca_X11_atomToPin_ok hst hD F) a0 a1 a2 a3 a4 M h), isC_of hi⟩
  · cases h
def n_X11_atomToPin {R' : Type} (f : Nat → Int32 → Int32 → Int32 → Int32 → cM → Option (Int32 × cM)) : cFn R' := fun as M κ κx => match as with
  | [.ref a0, .int a1, .int a2, .int a3, .int a4] => (f a0 a1 a2 a3 a4 M).bind fun p => κ (some (.int p.1)) p.2
  | _ => none
theorem w_X11_atomToPin : ∀ w ∈ [Cond.instanceMethod yX11_atomToPin, .selects yX11_atomToPin.cls yX11_atomToPin yX11_atomToPin, .initialized yX11_atomToPin.cls, .code yX11_atomToPin cX11_atomToPin 5 (some .int)], w ∈ lw_good := List.forall_mem_cons.mpr ⟨lw_good_of (tb_ok 736 (by decide +kernel)) rfl, List.forall_mem_cons.mpr ⟨lw_good_of (ts_ok 5 (by decide +kernel)) rfl, List.forall_mem_cons.mpr ⟨lw_good_of (tb_ok 1 (by decide +kernel)) rfl, List.forall_mem_cons.mpr ⟨lw_good_of (tb_ok 737 (by decide +kernel)) rfl, fun _ h => absurd h List.not_mem_nil⟩⟩⟩⟩
theorem n_X11_atomToPin_ok {R' : Type} {q : cL} {own : String} {d k : Nat} {f : Nat → Int32 → Int32 → Int32 → Int32 → cM → Option (Int32 × cM)} (hl : Cond.methodLink own k yX11_atomToPin ∈ lw_good) (hf : ∀ a0 a1 a2 a3 a4 M r, f a0 a1 a2 a3 a4 M = some r → CTx q yX11_atomToPin (.code yX11_atomToPin cX11_atomToPin 5 (some .int)) d [.ref a0, .int a1, .int a2, .int a3, .int a4] M (eI r) ∧ ∃ fs, M[a0]? = some (.inr (9, fs))) : ceS q own d (3 * k + 1) (n_X11_atomToPin (R' := R') f) := by
  intro as M κ κx r h
  unfold n_X11_atomToPin at h
  split at h
  · obtain ⟨p, h1, h2⟩ := Option.bind_eq_some_iff.mp h
    obtain ⟨hc, fs, ha⟩ := hf _ _ _ _ _ _ _ h1
    exact ⟨eI p, fun _ => h2, fun hne => absurd rfl hne, Or.inr (Or.inl ⟨yX11_atomToPin, cX11_atomToPin, 5, (some .int), k, 4, _, _, 9, TX11, 10, fs, rfl, rfl, hc, ha, rfl, List.forall_mem_cons.mpr ⟨hl, w_X11_atomToPin⟩, ⟨rfl, by decide +kernel, by decide +kernel, by decide +kernel⟩, rfl, by decide⟩)⟩
  · cases h
-- PatchbayScript.pin(IIIIII)I
def T_X11_pin : List cRow := [(0, .aload_n 0, 1, 0), (1, .iload_n 1, 2, 0), (2, .invokevirtual 127, 5, 0), (5, .iload_n 2, 6, 0), (6, .ifCond .lt 8, 9, 14), (9, .iload_n 2, 10, 0), (10, .iconst 4, 11, 0), (11, .if_icmp .lt 13, 14, 24), (14, .new 112, 17, 0), (24, .iload_n 3, 25, 0), (25, .iconst (-1), 26, 0), (26, .if_icmp .lt 8, 29, 34), (29, .iload_n 3, 30, 0), (30, .iconst 2, 31, 0), (31, .if_icmp .le 13, 34, 44), (34, .new 57, 37, 0), (44, .iload_n 3, 45, 0), (45, .iconst 1, 46, 0), (46, .if_icmp .ne 15, 49, 61), (49, .iload 4, 51, 0), (51, .iload 5, 53, 0), (53, .iload 6, 55, 0), (55, .invokestatic 178, 58, 0), (58, .ifCond .eq 20, 61, 78), (61, .iload_n 3, 62, 0), (62, .iconst 2, 63, 0), (63, .if_icmp .ne 25, 66, 88), (66, .iload 4, 68, 0), (68, .iload 5, 70, 0), (70, .iload 6, 72, 0), (72, .invokestatic 184, 75, 0), (75, .ifCond .ne 13, 78, 88), (78, .new 57, 81, 0), (88, .iload_n 3, 89, 0), (89, .ifCond .ne 34, 92, 123), (92, .aload_n 0, 93, 0), (93, .getfield 10, 96, 0), (96, .getfield 64, 99, 0), (99, .ifCond .eq 14, 102, 113), (102, .aload_n 0, 103, 0), (103, .getfield 10, 106, 0), (106, .getfield 64, 109, 0), (109, .iconst 4, 110, 0), (110, .if_icmp .le 13, 113, 123), (113, .new 68, 116, 0), (123, .aload_n 0, 124, 0), (124, .getfield 21, 127, 0), (127, .iload_n 1, 128, 0), (128, .aaload, 129, 0), (129, .iload_n 2, 130, 0), (130, .aload_n 0, 131, 0), (131, .iload_n 3, 132, 0), (132, .iload 4, 134, 0), (134, .iload 5, 136, 0), (136, .iload 6, 138, 0), (138, .invokevirtual 191, 141, 0), (141, .invokevirtual 195, 144, 0), (144, .iload_n 3, 145, 0), (145, .ifCond .ne 10, 148, 155), (148, .aload_n 0, 149, 0), (149, .getfield 10, 152, 0), (152, .invokevirtual 94, 155, 0), (155, .aload_n 0, 156, 0), (156, .getfield 21, 159, 0), (159, .iload_n 1, 160, 0), (160, .aaload, 161, 0), (161, .invokevirtual 199, 164, 0), (164, .ireturn, 165, 0)]
theorem T_X11_pin_ok : T_X11_pin.all (rowB cX11_pin) = true := by decide +kernel
def th_X11_pin : List (Nat × Nat) := [(14, 3), (34, 1), (78, 1), (113, 2)]
theorem th_X11_pin_ok {D : Nat} (hD : 6 ≤ D) : ∀ q ∈ th_X11_pin, 6 ≤ D ∧ thS RX11 cX11_pin q := List.forall_mem_cons.mpr ⟨⟨hD, ⟨112, 116, 174, "a program has no such place", thk_RX11_3_116 (by decide), by decide +kernel, by decide +kernel, Or.inl ⟨by decide +kernel, by decide +kernel, by decide +kernel⟩⟩⟩, List.forall_mem_cons.mpr ⟨⟨hD, ⟨57, 61, 176, "there is no such kind of atoms", thk_RX11_1_61 (by decide), by decide +kernel, by decide +kernel, Or.inl ⟨by decide +kernel, by decide +kernel, by decide +kernel⟩⟩⟩, List.forall_mem_cons.mpr ⟨⟨hD, ⟨57, 61, 187, "there is no such atom", thk_RX11_1_61 (by decide), by decide +kernel, by decide +kernel, Or.inl ⟨by decide +kernel, by decide +kernel, by decide +kernel⟩⟩⟩, List.forall_mem_cons.mpr ⟨⟨hD, ⟨68, 72, 189, "the draft is no CONST", thk_RX11_2_72 (by decide), by decide +kernel, by decide +kernel, Or.inl ⟨by decide +kernel, by decide +kernel, by decide +kernel⟩⟩⟩, fun _ h => absurd h List.not_mem_nil⟩⟩⟩⟩
def sw_X11_pin : List (Nat × (List (Int32 × Nat) × Nat)) := []
theorem sw_X11_pin_ok : ∀ q ∈ sw_X11_pin, swS cX11_pin q := fun _ h => absurd h List.not_mem_nil
def na_X11_pin : List (Nat × Nat) := [(382, 2), (534, 3), (552, 3), (574, 5), (586, 3), (283, 1), (598, 1)]
def ca_X11_pin {R' : Type} (F : Nat) : List (Nat × cFn R') := [(382, n_X11_needTask (f_X11_needTask F)), (534, n_X0_isCut (f_X0_isCut F)), (552, n_X0_isEach (f_X0_isEach F)), (574, n_X11_atomToPin (f_X11_atomToPin F)), (586, n_X9_setPin (f_X9_setPin F)), (283, n_X10_clear (f_X10_clear F)), (598, n_X9_pinCount (f_X9_pinCount F))]
theorem ca_X11_pin_ok {R' : Type} {q : cL} (hst : q.1.stackTraces = false) {D : Nat} (hD : 7 ≤ D) (F : Nat) : ∀ x ∈ (ca_X11_pin (R' := R') F), 1 ≤ D ∧ ceS q RX11 (D - 1) x.1 x.2 := List.forall_mem_cons.mpr ⟨⟨by omega, n_X11_needTask_ok (k := 127) (lw_good_of (tb_ok 685 (by decide +kernel)) rfl) (fun a0 a1 M r h => c_X11_needTask hst (by omega) F a0 a1 M r h)⟩, List.forall_mem_cons.mpr ⟨⟨by omega, n_X0_isCut_ok (k := 178) (lw_good_of (tb_ok 726 (by decide +kernel)) rfl) (fun a0 a1 a2 M r h => c_X0_isCut hst (by omega) F a0 a1 a2 M r h)⟩, List.forall_mem_cons.mpr ⟨⟨by omega, n_X0_isEach_ok (k := 184) (lw_good_of (tb_ok 729 (by decide +kernel)) rfl) (fun a0 a1 a2 M r h => c_X0_isEach hst (by omega) F a0 a1 a2 M r h)⟩, List.forall_mem_cons.mpr ⟨⟨by omega, n_X11_atomToPin_ok (k := 191) (lw_good_of (tb_ok 734 (by decide +kernel)) rfl) (fun a0 a1 a2 a3 a4 M r h => c_X11_atomToPin hst (by omega) F a0 a1 a2 a3 a4 M r h)⟩, List.forall_mem_cons.mpr ⟨⟨by omega, n_X9_setPin_ok (k := 195) (lw_good_of (tb_ok 750 (by decide +kernel)) rfl) (fun a0 a1 a2 M r h => c_X9_setPin hst (by omega) F a0 a1 a2 M r h)⟩, List.forall_mem_cons.mpr ⟨⟨by omega, n_X10_clear_ok (k := 94) (lw_good_of (tb_ok 534 (by decide +kernel)) rfl) (fun a0 M r h => c_X10_clear hst (by omega) F a0 M r h)⟩, List.forall_mem_cons.mpr ⟨⟨by omega, n_X9_pinCount_ok (k := 199) (lw_good_of (tb_ok 754 (by decide +kernel)) rfl) (fun a0 M r h => c_X9_pinCount hst (by omega) F a0 M r h)⟩, fun _ h => absurd h List.not_mem_nil⟩⟩⟩⟩⟩⟩⟩
def kd_X11_pin_61 (g : Nat → Int32 → Int32 → Int32 → Int32 → Int32 → Int32 → cM → Option (Nat × Int32 × cM)) : cKf (Nat × Int32 × cM) := fun vs st M => (lR vs 0).bind fun x0 => (lI vs 1).bind fun x1 => (lI vs 2).bind fun x2 => (lI vs 3).bind fun x3 => (lI vs 4).bind fun x4 => (lI vs 5).bind fun x5 => (lI vs 6).bind fun x6 => match st with
  | [] => g x0 x1 x2 x3 x4 x5 x6 M
  | _ => none
theorem kf_X11_pin_61 {X : cCtx} {o : cO} {r : Nat × Int32 × cM} {g : Nat → Int32 → Int32 → Int32 → Int32 → Int32 → Int32 → cM → Option (Nat × Int32 × cM)} (hg : ∀ x0 x1 x2 x3 x4 x5 x6 M, g x0 x1 x2 x3 x4 x5 x6 M = some r → WX X 7 o 61 [some (.ref x0), some (.int x1), some (.int x2), some (.int x3), some (.int x4), some (.int x5), some (.int x6)] [] M) : ∀ vs st M, kd_X11_pin_61 g vs st M = some r → WX X 7 o 61 vs st M := by
  intro vs st M h
  unfold kd_X11_pin_61 at h
  obtain ⟨x0, h0, h⟩ := Option.bind_eq_some_iff.mp h
  obtain ⟨x1, h1, h⟩ := Option.bind_eq_some_iff.mp h
  obtain ⟨x2, h2, h⟩ := Option.bind_eq_some_iff.mp h
  obtain ⟨x3, h3, h⟩ := Option.bind_eq_some_iff.mp h
  obtain ⟨x4, h4, h⟩ := Option.bind_eq_some_iff.mp h
  obtain ⟨x5, h5, h⟩ := Option.bind_eq_some_iff.mp h
  obtain ⟨x6, h6, h⟩ := Option.bind_eq_some_iff.mp h
  split at h
  · exact WX_weak (hg _ _ _ _ _ _ _ _ h) rfl ⟨lR_of h0, lI_of h1, lI_of h2, lI_of h3, lI_of h4, lI_of h5, lI_of h6, trivial⟩
  · cases h
def kd_X11_pin_88 (g : Nat → Int32 → Int32 → Int32 → Int32 → Int32 → Int32 → cM → Option (Nat × Int32 × cM)) : cKf (Nat × Int32 × cM) := fun vs st M => (lR vs 0).bind fun x0 => (lI vs 1).bind fun x1 => (lI vs 2).bind fun x2 => (lI vs 3).bind fun x3 => (lI vs 4).bind fun x4 => (lI vs 5).bind fun x5 => (lI vs 6).bind fun x6 => match st with
  | [] => g x0 x1 x2 x3 x4 x5 x6 M
  | _ => none
theorem kf_X11_pin_88 {X : cCtx} {o : cO} {r : Nat × Int32 × cM} {g : Nat → Int32 → Int32 → Int32 → Int32 → Int32 → Int32 → cM → Option (Nat × Int32 × cM)} (hg : ∀ x0 x1 x2 x3 x4 x5 x6 M, g x0 x1 x2 x3 x4 x5 x6 M = some r → WX X 7 o 88 [some (.ref x0), some (.int x1), some (.int x2), some (.int x3), some (.int x4), some (.int x5), some (.int x6)] [] M) : ∀ vs st M, kd_X11_pin_88 g vs st M = some r → WX X 7 o 88 vs st M := by
  intro vs st M h
  unfold kd_X11_pin_88 at h
  obtain ⟨x0, h0, h⟩ := Option.bind_eq_some_iff.mp h
  obtain ⟨x1, h1, h⟩ := Option.bind_eq_some_iff.mp h
  obtain ⟨x2, h2, h⟩ := Option.bind_eq_some_iff.mp h
  obtain ⟨x3, h3, h⟩ := Option.bind_eq_some_iff.mp h
  obtain ⟨x4, h4, h⟩ := Option.bind_eq_some_iff.mp h
  obtain ⟨x5, h5, h⟩ := Option.bind_eq_some_iff.mp h
  obtain ⟨x6, h6, h⟩ := Option.bind_eq_some_iff.mp h
  split at h
  · exact WX_weak (hg _ _ _ _ _ _ _ _ h) rfl ⟨lR_of h0, lI_of h1, lI_of h2, lI_of h3, lI_of h4, lI_of h5, lI_of h6, trivial⟩
  · cases h
def kd_X11_pin_123 (g : Nat → Int32 → Int32 → Int32 → Int32 → Int32 → Int32 → cM → Option (Nat × Int32 × cM)) : cKf (Nat × Int32 × cM) := fun vs st M => (lR vs 0).bind fun x0 => (lI vs 1).bind fun x1 => (lI vs 2).bind fun x2 => (lI vs 3).bind fun x3 => (lI vs 4).bind fun x4 => (lI vs 5).bind fun x5 => (lI vs 6).bind fun x6 => match st with
  | [] => g x0 x1 x2 x3 x4 x5 x6 M
  | _ => none
theorem kf_X11_pin_123 {X : cCtx} {o : cO} {r : Nat × Int32 × cM} {g : Nat → Int32 → Int32 → Int32 → Int32 → Int32 → Int32 → cM → Option (Nat × Int32 × cM)} (hg : ∀ x0 x1 x2 x3 x4 x5 x6 M, g x0 x1 x2 x3 x4 x5 x6 M = some r → WX X 7 o 123 [some (.ref x0), some (.int x1), some (.int x2), some (.int x3), some (.int x4), some (.int x5), some (.int x6)] [] M) : ∀ vs st M, kd_X11_pin_123 g vs st M = some r → WX X 7 o 123 vs st M := by
  intro vs st M h
  unfold kd_X11_pin_123 at h
  obtain ⟨x0, h0, h⟩ := Option.bind_eq_some_iff.mp h
  obtain ⟨x1, h1, h⟩ := Option.bind_eq_some_iff.mp h
  obtain ⟨x2, h2, h⟩ := Option.bind_eq_some_iff.mp h
  obtain ⟨x3, h3, h⟩ := Option.bind_eq_some_iff.mp h
  obtain ⟨x4, h4, h⟩ := Option.bind_eq_some_iff.mp h
  obtain ⟨x5, h5, h⟩ := Option.bind_eq_some_iff.mp h
  obtain ⟨x6, h6, h⟩ := Option.bind_eq_some_iff.mp h
  split at h
  · exact WX_weak (hg _ _ _ _ _ _ _ _ h) rfl ⟨lR_of h0, lI_of h1, lI_of h2, lI_of h3, lI_of h4, lI_of h5, lI_of h6, trivial⟩
  · cases h
set_option maxRecDepth 20000 in
theorem e_X11_pin_123 (F : Nat) (x0 : Nat) (x1 : Int32) (x2 : Int32) (x3 : Int32) (x4 : Int32) (x5 : Int32) (x6 : Int32) (M : cM) : b_X11_pin_123 F x0 x1 x2 x3 x4 x5 x6 M = run T_X11_pin P_RX11 false 0 (naL na_X11_pin) (caL (ca_X11_pin F)) (lkN th_X11_pin) (lkN sw_X11_pin) krTI kxTI (spL []) (KL []) 71 123 [some (.ref x0), some (.int x1), some (.int x2), some (.int x3), some (.int x4), some (.int x5), some (.int x6)] [] M := rfl
theorem ok_X11_pin_123 {X : cCtx} {D : Nat} {r : Nat × Int32 × cM} (G : FX X 7 (eTI r) cX11_pin RX11 0 D) (h6 : 6 ≤ D) {F : Nat} (hca : ∀ x ∈ (ca_X11_pin (R' := Nat × Int32 × cM) F), 1 ≤ D ∧ ceS X.1 RX11 (D - 1) x.1 x.2) : ∀ x0 x1 x2 x3 x4 x5 x6 M, f_X11_pin_123 F x0 x1 x2 x3 x4 x5 x6 M = some r → WX X 7 (eTI r) 123 [some (.ref x0), some (.int x1), some (.int x2), some (.int x3), some (.int x4), some (.int x5), some (.int x6)] [] M := by
  intro x0 x1 x2 x3 x4 x5 x6 M h
  exact seg_ok G P_RX11_ok T_X11_pin_ok hca (th_X11_pin_ok h6) sw_X11_pin_ok krTI_ok kxTI_ok (fun _ h => absurd h List.not_mem_nil) ((e_X11_pin_123 F x0 x1 x2 x3 x4 x5 x6 M).symm.trans h)
set_option maxRecDepth 20000 in
theorem e_X11_pin_88 (F : Nat) (t123 : Nat → Int32 → Int32 → Int32 → Int32 → Int32 → Int32 → cM → Option (Nat × Int32 × cM)) (x0 : Nat) (x1 : Int32) (x2 : Int32) (x3 : Int32) (x4 : Int32) (x5 : Int32) (x6 : Int32) (M : cM) : b_X11_pin_88 F t123 x0 x1 x2 x3 x4 x5 x6 M = run T_X11_pin P_RX11 false 0 (naL na_X11_pin) (caL (ca_X11_pin F)) (lkN th_X11_pin) (lkN sw_X11_pin) krTI kxTI (spL [123]) (KL [(123, kd_X11_pin_123 t123)]) 71 88 [some (.ref x0), some (.int x1), some (.int x2), some (.int x3), some (.int x4), some (.int x5), some (.int x6)] [] M := rfl
theorem ok_X11_pin_88 {X : cCtx} {D : Nat} {r : Nat × Int32 × cM} (G : FX X 7 (eTI r) cX11_pin RX11 0 D) (h6 : 6 ≤ D) {F : Nat} (hca : ∀ x ∈ (ca_X11_pin (R' := Nat × Int32 × cM) F), 1 ≤ D ∧ ceS X.1 RX11 (D - 1) x.1 x.2) : ∀ x0 x1 x2 x3 x4 x5 x6 M, f_X11_pin_88 F x0 x1 x2 x3 x4 x5 x6 M = some r → WX X 7 (eTI r) 88 [some (.ref x0), some (.int x1), some (.int x2), some (.int x3), some (.int x4), some (.int x5), some (.int x6)] [] M := by
  intro x0 x1 x2 x3 x4 x5 x6 M h
  exact seg_ok G P_RX11_ok T_X11_pin_ok hca (th_X11_pin_ok h6) sw_X11_pin_ok krTI_ok kxTI_ok (List.forall_mem_cons.mpr ⟨kf_X11_pin_123 (ok_X11_pin_123 G h6 hca), fun _ h => absurd h List.not_mem_nil⟩) ((e_X11_pin_88 F (f_X11_pin_123 F) x0 x1 x2 x3 x4 x5 x6 M).symm.trans h)
set_option maxRecDepth 20000 in
theorem e_X11_pin_61 (F : Nat) (t88 : Nat → Int32 → Int32 → Int32 → Int32 → Int32 → Int32 → cM → Option (Nat × Int32 × cM)) (x0 : Nat) (x1 : Int32) (x2 : Int32) (x3 : Int32) (x4 : Int32) (x5 : Int32) (x6 : Int32) (M : cM) : b_X11_pin_61 F t88 x0 x1 x2 x3 x4 x5 x6 M = run T_X11_pin P_RX11 false 0 (naL na_X11_pin) (caL (ca_X11_pin F)) (lkN th_X11_pin) (lkN sw_X11_pin) krTI kxTI (spL [88]) (KL [(88, kd_X11_pin_88 t88)]) 71 61 [some (.ref x0), some (.int x1), some (.int x2), some (.int x3), some (.int x4), some (.int x5), some (.int x6)] [] M := rfl
theorem ok_X11_pin_61 {X : cCtx} {D : Nat} {r : Nat × Int32 × cM} (G : FX X 7 (eTI r) cX11_pin RX11 0 D) (h6 : 6 ≤ D) {F : Nat} (hca : ∀ x ∈ (ca_X11_pin (R' := Nat × Int32 × cM) F), 1 ≤ D ∧ ceS X.1 RX11 (D - 1) x.1 x.2) : ∀ x0 x1 x2 x3 x4 x5 x6 M, f_X11_pin_61 F x0 x1 x2 x3 x4 x5 x6 M = some r → WX X 7 (eTI r) 61 [some (.ref x0), some (.int x1), some (.int x2), some (.int x3), some (.int x4), some (.int x5), some (.int x6)] [] M := by
  intro x0 x1 x2 x3 x4 x5 x6 M h
  exact seg_ok G P_RX11_ok T_X11_pin_ok hca (th_X11_pin_ok h6) sw_X11_pin_ok krTI_ok kxTI_ok (List.forall_mem_cons.mpr ⟨kf_X11_pin_88 (ok_X11_pin_88 G h6 hca), fun _ h => absurd h List.not_mem_nil⟩) ((e_X11_pin_61 F (f_X11_pin_88 F) x0 x1 x2 x3 x4 x5 x6 M).symm.trans h)
set_option maxRecDepth 20000 in
theorem e_X11_pin_0 (F : Nat) (t61 : Nat → Int32 → Int32 → Int32 → Int32 → Int32 → Int32 → cM → Option (Nat × Int32 × cM)) (x0 : Nat) (x1 : Int32) (x2 : Int32) (x3 : Int32) (x4 : Int32) (x5 : Int32) (x6 : Int32) (M : cM) : b_X11_pin_0 F t61 x0 x1 x2 x3 x4 x5 x6 M = run T_X11_pin P_RX11 false 0 (naL na_X11_pin) (caL (ca_X11_pin F)) (lkN th_X11_pin) (lkN sw_X11_pin) krTI kxTI (spL [61]) (KL [(61, kd_X11_pin_61 t61)]) 71 0 [some (.ref x0), some (.int x1), some (.int x2), some (.int x3), some (.int x4), some (.int x5), some (.int x6)] [] M := rfl
theorem ok_X11_pin_0 {X : cCtx} {D : Nat} {r : Nat × Int32 × cM} (G : FX X 7 (eTI r) cX11_pin RX11 0 D) (h6 : 6 ≤ D) {F : Nat} (hca : ∀ x ∈ (ca_X11_pin (R' := Nat × Int32 × cM) F), 1 ≤ D ∧ ceS X.1 RX11 (D - 1) x.1 x.2) : ∀ x0 x1 x2 x3 x4 x5 x6 M, f_X11_pin_0 F x0 x1 x2 x3 x4 x5 x6 M = some r → WX X 7 (eTI r) 0 [some (.ref x0), some (.int x1), some (.int x2), some (.int x3), some (.int x4), some (.int x5), some (.int x6)] [] M := by
  intro x0 x1 x2 x3 x4 x5 x6 M h
  exact seg_ok G P_RX11_ok T_X11_pin_ok hca (th_X11_pin_ok h6) sw_X11_pin_ok krTI_ok kxTI_ok (List.forall_mem_cons.mpr ⟨kf_X11_pin_61 (ok_X11_pin_61 G h6 hca), fun _ h => absurd h List.not_mem_nil⟩) ((e_X11_pin_0 F (f_X11_pin_61 F) x0 x1 x2 x3 x4 x5 x6 M).symm.trans h)
theorem c_X11_pin {q : cL} (hst : q.1.stackTraces = false) {D : Nat} (hD : 7 ≤ D) (F : Nat) (a0 : Nat) (a1 : Int32) (a2 : Int32) (a3 : Int32) (a4 : Int32) (a5 : Int32) (a6 : Int32) (M : cM) (r : Nat × Int32 × cM) (h : f_X11_pin F a0 a1 a2 a3 a4 a5 a6 M = some r) : CTx q yX11_pin (.code yX11_pin cX11_pin 7 (some .int)) D [.ref a0, .int a1, .int a2, .int a3, .int a4, .int a5, .int a6] M (eTI r) ∧ ∃ fs, M[a0]? = some (.inr (9, fs)) := by
  unfold f_X11_pin at h
  split at h
  · next hi => exact ⟨CTx_of (own := RX11) (rk := 0) hst (by decide +kernel) rfl (rfl) (Nat.le_of_ble_eq_true rfl) (fun X hX G => by subst hX; exact ok_X11_pin_0 G (by omega) (ca_X11_pin_ok hst hD F) a0 a1 a2 a3 a4 a5 a6 M h), isC_of hi⟩
  · cases h
-- PatchbayScript.learn(I)I
def T_X11_learn : List cRow := [(0, .aload_n 0, 1, 0), (1, .iload_n 1, 2, 0), (2, .invokevirtual 127, 5, 0), (5, .aload_n 0, 6, 0), (6, .getfield 21, 9, 0), (9, .iload_n 1, 10, 0), (10, .aaload, 11, 0), (11, .getfield 132, 14, 0), (14, .ifCond .ne 13, 17, 27), (17, .new 68, 20, 0), (27, .aload_n 0, 28, 0), (28, .getfield 47, 31, 0), (31, .aload_n 0, 32, 0), (32, .getfield 21, 35, 0), (35, .iload_n 1, 36, 0), (36, .aaload, 37, 0), (37, .invokevirtual 204, 40, 0), (40, .aload_n 0, 41, 0), (41, .getfield 47, 44, 0), (44, .aload_n 0, 45, 0), (45, .getfield 21, 48, 0), (48, .iload_n 1, 49, 0), (49, .aaload, 50, 0), (50, .invokevirtual 208, 53, 0), (53, .ifCond .ne 16, 56, 69), (56, .aload_n 0, 57, 0), (57, .getfield 47, 60, 0), (60, .aload_n 0, 61, 0), (61, .getfield 21, 64, 0), (64, .iload_n 1, 65, 0), (65, .aaload, 66, 0), (66, .invokevirtual 212, 69, 0), (69, .aload_n 0, 70, 0), (70, .getfield 21, 73, 0), (73, .iload_n 1, 74, 0), (74, .aaload, 75, 0), (75, .getfield 155, 78, 0), (78, .getfield 215, 81, 0), (81, .ifCond .ne 15, 84, 96), (84, .aload_n 0, 85, 0), (85, .getfield 21, 88, 0), (88, .iload_n 1, 89, 0), (89, .aaload, 90, 0), (90, .iconst 0, 91, 0), (91, .putfield 97, 94, 0), (94, .iconst (-1), 95, 0), (95, .ireturn, 96, 0), (96, .aload_n 0, 97, 0), (97, .getfield 21, 100, 0), (100, .iload_n 1, 101, 0), (101, .aaload, 102, 0), (102, .getfield 155, 105, 0), (105, .invokevirtual 218, 108, 0), (108, .ireturn, 109, 0)]
theorem T_X11_learn_ok : T_X11_learn.all (rowB cX11_learn) = true := by decide +kernel
def th_X11_learn : List (Nat × Nat) := [(17, 2)]
theorem th_X11_learn_ok {D : Nat} (hD : 6 ≤ D) : ∀ q ∈ th_X11_learn, 6 ≤ D ∧ thS RX11 cX11_learn q := List.forall_mem_cons.mpr ⟨⟨hD, ⟨68, 72, 202, "the task has no examples", thk_RX11_2_72 (by decide), by decide +kernel, by decide +kernel, Or.inl ⟨by decide +kernel, by decide +kernel, by decide +kernel⟩⟩⟩, fun _ h => absurd h List.not_mem_nil⟩
def sw_X11_learn : List (Nat × (List (Int32 × Nat) × Nat)) := []
theorem sw_X11_learn_ok : ∀ q ∈ sw_X11_learn, swS cX11_learn q := fun _ h => absurd h List.not_mem_nil
def na_X11_learn : List (Nat × Nat) := [(382, 2), (613, 2), (625, 2), (637, 2), (655, 1)]
def ca_X11_learn {R' : Type} (F : Nat) : List (Nat × cFn R') := [(382, n_X11_needTask (f_X11_needTask F)), (613, n_X3_findBest (f_X3_findBest F)), (625, n_X3_learnBest (f_X3_learnBest F)), (637, n_X3_learnParted (f_X3_learnParted F)), (655, n_X4_sum (f_X4_sum F))]
theorem ca_X11_learn_ok {R' : Type} {q : cL} (hst : q.1.stackTraces = false) {D : Nat} (hD : 51 ≤ D) (F : Nat) : ∀ x ∈ (ca_X11_learn (R' := R') F), 1 ≤ D ∧ ceS q RX11 (D - 1) x.1 x.2 := List.forall_mem_cons.mpr ⟨⟨by omega, n_X11_needTask_ok (k := 127) (lw_good_of (tb_ok 685 (by decide +kernel)) rfl) (fun a0 a1 M r h => c_X11_needTask hst (by omega) F a0 a1 M r h)⟩, List.forall_mem_cons.mpr ⟨⟨by omega, n_X3_findBest_ok (k := 204) (lw_good_of (tb_ok 766 (by decide +kernel)) rfl) (fun a0 a1 M r h => c_X3_findBest hst (by omega) F a0 a1 M r h)⟩, List.forall_mem_cons.mpr ⟨⟨by omega, n_X3_learnBest_ok (k := 208) (lw_good_of (tb_ok 944 (by decide +kernel)) rfl) (fun a0 a1 M r h => c_X3_learnBest hst (by omega) F a0 a1 M r h)⟩, List.forall_mem_cons.mpr ⟨⟨by omega, n_X3_learnParted_ok (k := 212) (lw_good_of (tb_ok 961 (by decide +kernel)) rfl) (fun a0 a1 M r h => c_X3_learnParted hst (by omega) F a0 a1 M r h)⟩, List.forall_mem_cons.mpr ⟨⟨by omega, n_X4_sum_ok (k := 218) (lw_good_of (tb_ok 991 (by decide +kernel)) rfl) (fun a0 M r h => c_X4_sum hst (by omega) F a0 M r h)⟩, fun _ h => absurd h List.not_mem_nil⟩⟩⟩⟩⟩
def kd_X11_learn_69 (g : Nat → Int32 → cM → Option (Nat × Int32 × cM)) : cKf (Nat × Int32 × cM) := fun vs st M => (lR vs 0).bind fun x0 => (lI vs 1).bind fun x1 => match st with
  | [] => g x0 x1 M
  | _ => none
theorem kf_X11_learn_69 {X : cCtx} {o : cO} {r : Nat × Int32 × cM} {g : Nat → Int32 → cM → Option (Nat × Int32 × cM)} (hg : ∀ x0 x1 M, g x0 x1 M = some r → WX X 2 o 69 [some (.ref x0), some (.int x1)] [] M) : ∀ vs st M, kd_X11_learn_69 g vs st M = some r → WX X 2 o 69 vs st M := by
  intro vs st M h
  unfold kd_X11_learn_69 at h
  obtain ⟨x0, h0, h⟩ := Option.bind_eq_some_iff.mp h
  obtain ⟨x1, h1, h⟩ := Option.bind_eq_some_iff.mp h
  split at h
  · exact WX_weak (hg _ _ _ h) rfl ⟨lR_of h0, lI_of h1, trivial⟩
  · cases h
set_option maxRecDepth 20000 in
theorem e_X11_learn_69 (F : Nat) (x0 : Nat) (x1 : Int32) (M : cM) : b_X11_learn_69 F x0 x1 M = run T_X11_learn P_RX11 false 0 (naL na_X11_learn) (caL (ca_X11_learn F)) (lkN th_X11_learn) (lkN sw_X11_learn) krTI kxTI (spL []) (KL []) 57 69 [some (.ref x0), some (.int x1)] [] M := rfl
theorem ok_X11_learn_69 {X : cCtx} {D : Nat} {r : Nat × Int32 × cM} (G : FX X 2 (eTI r) cX11_learn RX11 0 D) (h6 : 6 ≤ D) {F : Nat} (hca : ∀ x ∈ (ca_X11_learn (R' := Nat × Int32 × cM) F), 1 ≤ D ∧ ceS X.1 RX11 (D - 1) x.1 x.2) : ∀ x0 x1 M, f_X11_learn_69 F x0 x1 M = some r → WX X 2 (eTI r) 69 [some (.ref x0), some (.int x1)] [] M := by
  intro x0 x1 M h
  exact seg_ok G P_RX11_ok T_X11_learn_ok hca (th_X11_learn_ok h6) sw_X11_learn_ok krTI_ok kxTI_ok (fun _ h => absurd h List.not_mem_nil) ((e_X11_learn_69 F x0 x1 M).symm.trans h)
set_option maxRecDepth 20000 in
theorem e_X11_learn_0 (F : Nat) (t69 : Nat → Int32 → cM → Option (Nat × Int32 × cM)) (x0 : Nat) (x1 : Int32) (M : cM) : b_X11_learn_0 F t69 x0 x1 M = run T_X11_learn P_RX11 false 0 (naL na_X11_learn) (caL (ca_X11_learn F)) (lkN th_X11_learn) (lkN sw_X11_learn) krTI kxTI (spL [69]) (KL [(69, kd_X11_learn_69 t69)]) 57 0 [some (.ref x0), some (.int x1)] [] M := rfl
theorem ok_X11_learn_0 {X : cCtx} {D : Nat} {r : Nat × Int32 × cM} (G : FX X 2 (eTI r) cX11_learn RX11 0 D) (h6 : 6 ≤ D) {F : Nat} (hca : ∀ x ∈ (ca_X11_learn (R' := Nat × Int32 × cM) F), 1 ≤ D ∧ ceS X.1 RX11 (D - 1) x.1 x.2) : ∀ x0 x1 M, f_X11_learn_0 F x0 x1 M = some r → WX X 2 (eTI r) 0 [some (.ref x0), some (.int x1)] [] M := by
  intro x0 x1 M h
  exact seg_ok G P_RX11_ok T_X11_learn_ok hca (th_X11_learn_ok h6) sw_X11_learn_ok krTI_ok kxTI_ok (List.forall_mem_cons.mpr ⟨kf_X11_learn_69 (ok_X11_learn_69 G h6 hca), fun _ h => absurd h List.not_mem_nil⟩) ((e_X11_learn_0 F (f_X11_learn_69 F) x0 x1 M).symm.trans h)
theorem c_X11_learn {q : cL} (hst : q.1.stackTraces = false) {D : Nat} (hD : 51 ≤ D) (F : Nat) (a0 : Nat) (a1 : Int32) (M : cM) (r : Nat × Int32 × cM) (h : f_X11_learn F a0 a1 M = some r) : CTx q yX11_learn (.code yX11_learn cX11_learn 2 (some .int)) D [.ref a0, .int a1] M (eTI r) ∧ ∃ fs, M[a0]? = some (.inr (9, fs)) := by
  unfold f_X11_learn at h
  split at h
  · next hi => exact ⟨CTx_of (own := RX11) (rk := 0) hst (by decide +kernel) rfl (rfl) (Nat.le_of_ble_eq_true rfl) (fun X hX G => by subst hX; exact ok_X11_learn_0 G (by omega) (ca_X11_learn_ok hst hD F) a0 a1 M h), isC_of hi⟩
  · cases h
-- PatchbayScript.count(I)I
def T_X11_count : List cRow := [(0, .aload_n 0, 1, 0), (1, .iload_n 1, 2, 0), (2, .invokevirtual 127, 5, 0), (5, .aload_n 0, 6, 0), (6, .getfield 47, 9, 0), (9, .aload_n 0, 10, 0), (10, .getfield 21, 13, 0), (13, .iload_n 1, 14, 0), (14, .aaload, 15, 0), (15, .invokevirtual 204, 18, 0), (18, .aload_n 0, 19, 0), (19, .getfield 21, 22, 0), (22, .iload_n 1, 23, 0), (23, .aaload, 24, 0), (24, .getfield 221, 27, 0), (27, .ireturn, 28, 0)]
theorem T_X11_count_ok : T_X11_count.all (rowB cX11_count) = true := by decide +kernel
def th_X11_count : List (Nat × Nat) := []
def sw_X11_count : List (Nat × (List (Int32 × Nat) × Nat)) := []
theorem sw_X11_count_ok : ∀ q ∈ sw_X11_count, swS cX11_count q := fun _ h => absurd h List.not_mem_nil
def na_X11_count : List (Nat × Nat) := [(382, 2), (613, 2)]
def ca_X11_count {R' : Type} (F : Nat) : List (Nat × cFn R') := [(382, n_X11_needTask (f_X11_needTask F)), (613, n_X3_findBest (f_X3_findBest F))]
theorem ca_X11_count_ok {R' : Type} {q : cL} (hst : q.1.stackTraces = false) {D : Nat} (hD : 50 ≤ D) (F : Nat) : ∀ x ∈ (ca_X11_count (R' := R') F), 1 ≤ D ∧ ceS q RX11 (D - 1) x.1 x.2 := List.forall_mem_cons.mpr ⟨⟨by omega, n_X11_needTask_ok (k := 127) (lw_good_of (tb_ok 685 (by decide +kernel)) rfl) (fun a0 a1 M r h => c_X11_needTask hst (by omega) F a0 a1 M r h)⟩, List.forall_mem_cons.mpr ⟨⟨by omega, n_X3_findBest_ok (k := 204) (lw_good_of (tb_ok 766 (by decide +kernel)) rfl) (fun a0 a1 M r h => c_X3_findBest hst (by omega) F a0 a1 M r h)⟩, fun _ h => absurd h List.not_mem_nil⟩⟩
set_option maxRecDepth 20000 in
theorem e_X11_count_0 (F : Nat) (x0 : Nat) (x1 : Int32) (M : cM) : b_X11_count_0 F x0 x1 M = run T_X11_count P_RX11 false 0 (naL na_X11_count) (caL (ca_X11_count F)) (lkN th_X11_count) (lkN sw_X11_count) krTI kxTI (spL []) (KL []) 19 0 [some (.ref x0), some (.int x1)] [] M := rfl
theorem ok_X11_count_0 {X : cCtx} {D : Nat} {r : Nat × Int32 × cM} (G : FX X 2 (eTI r) cX11_count RX11 0 D) {F : Nat} (hca : ∀ x ∈ (ca_X11_count (R' := Nat × Int32 × cM) F), 1 ≤ D ∧ ceS X.1 RX11 (D - 1) x.1 x.2) : ∀ x0 x1 M, f_X11_count_0 F x0 x1 M = some r → WX X 2 (eTI r) 0 [some (.ref x0), some (.int x1)] [] M := by
  intro x0 x1 M h
  exact seg_ok G P_RX11_ok T_X11_count_ok hca (fun _ h => absurd h List.not_mem_nil) sw_X11_count_ok krTI_ok kxTI_ok (fun _ h => absurd h List.not_mem_nil) ((e_X11_count_0 F x0 x1 M).symm.trans h)
theorem c_X11_count {q : cL} (hst : q.1.stackTraces = false) {D : Nat} (hD : 50 ≤ D) (F : Nat) (a0 : Nat) (a1 : Int32) (M : cM) (r : Nat × Int32 × cM) (h : f_X11_count F a0 a1 M = some r) : CTx q yX11_count (.code yX11_count cX11_count 2 (some .int)) D [.ref a0, .int a1] M (eTI r) ∧ ∃ fs, M[a0]? = some (.inr (9, fs)) := by
  unfold f_X11_count at h
  split at h
  · next hi => exact ⟨CTx_of (own := RX11) (rk := 0) hst (by decide +kernel) rfl (rfl) (Nat.le_of_ble_eq_true rfl) (fun X hX G => by subst hX; exact ok_X11_count_0 G (ca_X11_count_ok hst hD F) a0 a1 M h), isC_of hi⟩
  · cases h
-- PatchbayScript.weight(II)I
def T_X11_weight : List cRow := [(0, .aload_n 0, 1, 0), (1, .iload_n 1, 2, 0), (2, .invokevirtual 127, 5, 0), (5, .aload_n 0, 6, 0), (6, .getfield 47, 9, 0), (9, .aload_n 0, 10, 0), (10, .getfield 21, 13, 0), (13, .iload_n 1, 14, 0), (14, .aaload, 15, 0), (15, .invokevirtual 204, 18, 0), (18, .iload_n 2, 19, 0), (19, .ifCond .lt 16, 22, 35), (22, .iload_n 2, 23, 0), (23, .aload_n 0, 24, 0), (24, .getfield 21, 27, 0), (27, .iload_n 1, 28, 0), (28, .aaload, 29, 0), (29, .getfield 221, 32, 0), (32, .if_icmp .lt 13, 35, 45), (35, .new 112, 38, 0), (45, .aload_n 0, 46, 0), (46, .getfield 21, 49, 0), (49, .iload_n 1, 50, 0), (50, .aaload, 51, 0), (51, .getfield 226, 54, 0), (54, .iload_n 2, 55, 0), (55, .aaload, 56, 0), (56, .invokevirtual 230, 59, 0), (59, .ireturn, 60, 0)]
theorem T_X11_weight_ok : T_X11_weight.all (rowB cX11_weight) = true := by decide +kernel
def th_X11_weight : List (Nat × Nat) := [(35, 3)]
theorem th_X11_weight_ok {D : Nat} (hD : 6 ≤ D) : ∀ q ∈ th_X11_weight, 6 ≤ D ∧ thS RX11 cX11_weight q := List.forall_mem_cons.mpr ⟨⟨hD, ⟨112, 116, 224, "not so many programs count", thk_RX11_3_116 (by decide), by decide +kernel, by decide +kernel, Or.inl ⟨by decide +kernel, by decide +kernel, by decide +kernel⟩⟩⟩, fun _ h => absurd h List.not_mem_nil⟩
def sw_X11_weight : List (Nat × (List (Int32 × Nat) × Nat)) := []
theorem sw_X11_weight_ok : ∀ q ∈ sw_X11_weight, swS cX11_weight q := fun _ h => absurd h List.not_mem_nil
def na_X11_weight : List (Nat × Nat) := [(382, 2), (613, 2), (691, 1)]
def ca_X11_weight {R' : Type} (F : Nat) : List (Nat × cFn R') := [(382, n_X11_needTask (f_X11_needTask F)), (613, n_X3_findBest (f_X3_findBest F)), (691, n_X6_sum (f_X6_sum F))]
theorem ca_X11_weight_ok {R' : Type} {q : cL} (hst : q.1.stackTraces = false) {D : Nat} (hD : 50 ≤ D) (F : Nat) : ∀ x ∈ (ca_X11_weight (R' := R') F), 1 ≤ D ∧ ceS q RX11 (D - 1) x.1 x.2 := List.forall_mem_cons.mpr ⟨⟨by omega, n_X11_needTask_ok (k := 127) (lw_good_of (tb_ok 685 (by decide +kernel)) rfl) (fun a0 a1 M r h => c_X11_needTask hst (by omega) F a0 a1 M r h)⟩, List.forall_mem_cons.mpr ⟨⟨by omega, n_X3_findBest_ok (k := 204) (lw_good_of (tb_ok 766 (by decide +kernel)) rfl) (fun a0 a1 M r h => c_X3_findBest hst (by omega) F a0 a1 M r h)⟩, List.forall_mem_cons.mpr ⟨⟨by omega, n_X6_sum_ok (k := 230) (lw_good_of (tb_ok 1007 (by decide +kernel)) rfl) (fun a0 M r h => c_X6_sum hst (by omega) F a0 M r h)⟩, fun _ h => absurd h List.not_mem_nil⟩⟩⟩
set_option maxRecDepth 20000 in
theorem e_X11_weight_0 (F : Nat) (x0 : Nat) (x1 : Int32) (x2 : Int32) (M : cM) : b_X11_weight_0 F x0 x1 x2 M = run T_X11_weight P_RX11 false 0 (naL na_X11_weight) (caL (ca_X11_weight F)) (lkN th_X11_weight) (lkN sw_X11_weight) krTI kxTI (spL []) (KL []) 32 0 [some (.ref x0), some (.int x1), some (.int x2)] [] M := rfl
theorem ok_X11_weight_0 {X : cCtx} {D : Nat} {r : Nat × Int32 × cM} (G : FX X 3 (eTI r) cX11_weight RX11 0 D) (h6 : 6 ≤ D) {F : Nat} (hca : ∀ x ∈ (ca_X11_weight (R' := Nat × Int32 × cM) F), 1 ≤ D ∧ ceS X.1 RX11 (D - 1) x.1 x.2) : ∀ x0 x1 x2 M, f_X11_weight_0 F x0 x1 x2 M = some r → WX X 3 (eTI r) 0 [some (.ref x0), some (.int x1), some (.int x2)] [] M := by
  intro x0 x1 x2 M h
  exact seg_ok G P_RX11_ok T_X11_weight_ok hca (th_X11_weight_ok h6) sw_X11_weight_ok krTI_ok kxTI_ok (fun _ h => absurd h List.not_mem_nil) ((e_X11_weight_0 F x0 x1 x2 M).symm.trans h)
theorem c_X11_weight {q : cL} (hst : q.1.stackTraces = false) {D : Nat} (hD : 50 ≤ D) (F : Nat) (a0 : Nat) (a1 : Int32) (a2 : Int32) (M : cM) (r : Nat × Int32 × cM) (h : f_X11_weight F a0 a1 a2 M = some r) : CTx q yX11_weight (.code yX11_weight cX11_weight 3 (some .int)) D [.ref a0, .int a1, .int a2] M (eTI r) ∧ ∃ fs, M[a0]? = some (.inr (9, fs)) := by
  unfold f_X11_weight at h
  split at h
  · next hi => exact ⟨CTx_of (own := RX11) (rk := 0) hst (by decide +kernel) rfl (rfl) (Nat.le_of_ble_eq_true rfl) (fun X hX G => by subst hX; exact ok_X11_weight_0 G (by omega) (ca_X11_weight_ok hst hD F) a0 a1 a2 M h), isC_of hi⟩
  · cases h
-- PatchbayScript.question(I)I
def T_X11_question : List cRow := [(0, .aload_n 0, 1, 0), (1, .iload_n 1, 2, 0), (2, .invokevirtual 127, 5, 0), (5, .aload_n 0, 6, 0), (6, .getfield 47, 9, 0), (9, .aload_n 0, 10, 0), (10, .getfield 21, 13, 0), (13, .iload_n 1, 14, 0), (14, .aaload, 15, 0), (15, .invokevirtual 204, 18, 0), (18, .iconst 0, 19, 0), (19, .istore_n 2, 20, 0), (20, .iload_n 2, 21, 0), (21, .aload_n 0, 22, 0), (22, .getfield 76, 25, 0), (25, .if_icmp .ge 49, 28, 74), (28, .aload_n 0, 29, 0), (29, .getfield 21, 32, 0), (32, .iload_n 1, 33, 0), (33, .aaload, 34, 0), (34, .iload_n 2, 35, 0), (35, .invokevirtual 137, 38, 0), (38, .ifCond .ne 30, 41, 68), (41, .aload_n 0, 42, 0), (42, .getfield 47, 45, 0), (45, .aload_n 0, 46, 0), (46, .getfield 21, 49, 0), (49, .iload_n 1, 50, 0), (50, .aaload, 51, 0), (51, .aload_n 0, 52, 0), (52, .getfield 28, 55, 0), (55, .iload_n 2, 56, 0), (56, .aaload, 57, 0), (57, .getfield 109, 60, 0), (60, .invokevirtual 233, 63, 0), (63, .ifCond .eq 5, 66, 68), (66, .iload_n 2, 67, 0), (67, .ireturn, 68, 0), (68, .iinc 2 1, 71, 0), (71, .goto (-51), 74, 20), (74, .iconst (-1), 75, 0), (75, .ireturn, 76, 0)]
theorem T_X11_question_ok : T_X11_question.all (rowB cX11_question) = true := by decide +kernel
def th_X11_question : List (Nat × Nat) := []
def sw_X11_question : List (Nat × (List (Int32 × Nat) × Nat)) := []
theorem sw_X11_question_ok : ∀ q ∈ sw_X11_question, swS cX11_question q := fun _ h => absurd h List.not_mem_nil
def na_X11_question : List (Nat × Nat) := [(382, 2), (613, 2), (412, 2), (700, 3)]
def ca_X11_question {R' : Type} (F : Nat) : List (Nat × cFn R') := [(382, n_X11_needTask (f_X11_needTask F)), (613, n_X3_findBest (f_X3_findBest F)), (412, n_X9_hasExampleOn (f_X9_hasExampleOn F)), (700, n_X3_bestDiffer (f_X3_bestDiffer F))]
theorem ca_X11_question_ok {R' : Type} {q : cL} (hst : q.1.stackTraces = false) {D : Nat} (hD : 50 ≤ D) (F : Nat) : ∀ x ∈ (ca_X11_question (R' := R') F), 1 ≤ D ∧ ceS q RX11 (D - 1) x.1 x.2 := List.forall_mem_cons.mpr ⟨⟨by omega, n_X11_needTask_ok (k := 127) (lw_good_of (tb_ok 685 (by decide +kernel)) rfl) (fun a0 a1 M r h => c_X11_needTask hst (by omega) F a0 a1 M r h)⟩, List.forall_mem_cons.mpr ⟨⟨by omega, n_X3_findBest_ok (k := 204) (lw_good_of (tb_ok 766 (by decide +kernel)) rfl) (fun a0 a1 M r h => c_X3_findBest hst (by omega) F a0 a1 M r h)⟩, List.forall_mem_cons.mpr ⟨⟨by omega, n_X9_hasExampleOn_ok (k := 137) (lw_good_of (tb_ok 550 (by decide +kernel)) rfl) (fun a0 a1 M r h => c_X9_hasExampleOn hst (by omega) F a0 a1 M r h)⟩, List.forall_mem_cons.mpr ⟨⟨by omega, n_X3_bestDiffer_ok (k := 233) (lw_good_of (tb_ok 1015 (by decide +kernel)) rfl) (fun a0 a1 a2 M r h => c_X3_bestDiffer hst (by omega) F a0 a1 a2 M r h)⟩, fun _ h => absurd h List.not_mem_nil⟩⟩⟩⟩
def kd_X11_question_20 (g : Nat → Int32 → Int32 → cM → Option (Nat × Int32 × cM)) : cKf (Nat × Int32 × cM) := fun vs st M => (lR vs 0).bind fun x0 => (lI vs 1).bind fun x1 => (lI vs 2).bind fun x2 => match st with
  | [] => g x0 x1 x2 M
  | _ => none
theorem kf_X11_question_20 {X : cCtx} {o : cO} {r : Nat × Int32 × cM} {g : Nat → Int32 → Int32 → cM → Option (Nat × Int32 × cM)} (hg : ∀ x0 x1 x2 M, g x0 x1 x2 M = some r → WX X 3 o 20 [some (.ref x0), some (.int x1), some (.int x2)] [] M) : ∀ vs st M, kd_X11_question_20 g vs st M = some r → WX X 3 o 20 vs st M := by
  intro vs st M h
  unfold kd_X11_question_20 at h
  obtain ⟨x0, h0, h⟩ := Option.bind_eq_some_iff.mp h
  obtain ⟨x1, h1, h⟩ := Option.bind_eq_some_iff.mp h
  obtain ⟨x2, h2, h⟩ := Option.bind_eq_some_iff.mp h
  split at h
  · exact WX_weak (hg _ _ _ _ h) rfl ⟨lR_of h0, lI_of h1, lI_of h2, trivial⟩
  · cases h
set_option maxRecDepth 20000 in
theorem e_X11_question_20 (F : Nat) (t20 : Nat → Int32 → Int32 → cM → Option (Nat × Int32 × cM)) (x0 : Nat) (x1 : Int32) (x2 : Int32) (M : cM) : b_X11_question_20 F t20 x0 x1 x2 M = run T_X11_question P_RX11 false 0 (naL na_X11_question) (caL (ca_X11_question F)) (lkN th_X11_question) (lkN sw_X11_question) krTI kxTI (spL [20]) (KL [(20, kd_X11_question_20 t20)]) 45 20 [some (.ref x0), some (.int x1), some (.int x2)] [] M := rfl
theorem ok_X11_question_20 {X : cCtx} {D : Nat} {r : Nat × Int32 × cM} (G : FX X 3 (eTI r) cX11_question RX11 0 D) {F : Nat} (hca : ∀ x ∈ (ca_X11_question (R' := Nat × Int32 × cM) F), 1 ≤ D ∧ ceS X.1 RX11 (D - 1) x.1 x.2) (n : Nat) : ∀ x0 x1 x2 M, f_X11_question_20 F n x0 x1 x2 M = some r → WX X 3 (eTI r) 20 [some (.ref x0), some (.int x1), some (.int x2)] [] M := by
  induction n with
  | zero => intro x0 x1 x2 M h; cases h
  | succ n ih =>
    intro x0 x1 x2 M h
    exact seg_ok G P_RX11_ok T_X11_question_ok hca (fun _ h => absurd h List.not_mem_nil) sw_X11_question_ok krTI_ok kxTI_ok (List.forall_mem_cons.mpr ⟨kf_X11_question_20 (ih), fun _ h => absurd h List.not_mem_nil⟩) ((e_X11_question_20 F (f_X11_question_20 F n) x0 x1 x2 M).symm.trans h)
set_option maxRecDepth 20000 in
theorem e_X11_question_0 (F : Nat) (t20 : Nat → Int32 → Int32 → cM → Option (Nat × Int32 × cM)) (x0 : Nat) (x1 : Int32) (M : cM) : b_X11_question_0 F t20 x0 x1 M = run T_X11_question P_RX11 false 0 (naL na_X11_question) (caL (ca_X11_question F)) (lkN th_X11_question) (lkN sw_X11_question) krTI kxTI (spL [20]) (KL [(20, kd_X11_question_20 t20)]) 45 0 [some (.ref x0), some (.int x1), none] [] M := rfl
theorem ok_X11_question_0 {X : cCtx} {D : Nat} {r : Nat × Int32 × cM} (G : FX X 3 (eTI r) cX11_question RX11 0 D) {F : Nat} (hca : ∀ x ∈ (ca_X11_question (R' := Nat × Int32 × cM) F), 1 ≤ D ∧ ceS X.1 RX11 (D - 1) x.1 x.2) : ∀ x0 x1 M, f_X11_question_0 F x0 x1 M = some r → WX X 3 (eTI r) 0 [some (.ref x0), some (.int x1), none] [] M := by
  intro x0 x1 M h
  exact seg_ok G P_RX11_ok T_X11_question_ok hca (fun _ h => absurd h List.not_mem_nil) sw_X11_question_ok krTI_ok kxTI_ok (List.forall_mem_cons.mpr ⟨kf_X11_question_20 (ok_X11_question_20 G hca F), fun _ h => absurd h List.not_mem_nil⟩) ((e_X11_question_0 F (f_X11_question_20 F F) x0 x1 M).symm.trans h)
theorem c_X11_question {q : cL} (hst : q.1.stackTraces = false) {D : Nat} (hD : 50 ≤ D) (F : Nat) (a0 : Nat) (a1 : Int32) (M : cM) (r : Nat × Int32 × cM) (h : f_X11_question F a0 a1 M = some r) : CTx q yX11_question (.code yX11_question cX11_question 3 (some .int)) D [.ref a0, .int a1] M (eTI r) ∧ ∃ fs, M[a0]? = some (.inr (9, fs)) := by
  unfold f_X11_question at h
  split at h
  · next hi => exact ⟨CTx_of (own := RX11) (rk := 0) hst (by decide +kernel) rfl (rfl) (Nat.le_of_ble_eq_true rfl) (fun X hX G => by subst hX; exact ok_X11_question_0 G (ca_X11_question_ok hst hD F) a0 a1 M h), isC_of hi⟩
  · cases h
-- PatchbayScript.condition(I)I
def T_X11_condition : List cRow := [(0, .aload_n 0, 1, 0), (1, .iload_n 1, 2, 0), (2, .invokevirtual 127, 5, 0), (5, .aload_n 0, 6, 0), (6, .getfield 21, 9, 0), (9, .iload_n 1, 10, 0), (10, .aaload, 11, 0), (11, .getfield 155, 14, 0), (14, .getfield 215, 17, 0), (17, .ifCond .eq 18, 20, 35), (20, .aload_n 0, 21, 0), (21, .getfield 21, 24, 0), (24, .iload_n 1, 25, 0), (25, .aaload, 26, 0), (26, .getfield 155, 29, 0), (29, .getfield 237, 32, 0), (32, .goto 4, 35, 36), (35, .iconst (-1), 36, 0), (36, .ireturn, 37, 0)]
theorem T_X11_condition_ok : T_X11_condition.all (rowB cX11_condition) = true := by decide +kernel
def th_X11_condition : List (Nat × Nat) := []
def sw_X11_condition : List (Nat × (List (Int32 × Nat) × Nat)) := []
theorem sw_X11_condition_ok : ∀ q ∈ sw_X11_condition, swS cX11_condition q := fun _ h => absurd h List.not_mem_nil
def na_X11_condition : List (Nat × Nat) := [(382, 2)]
def ca_X11_condition {R' : Type} (F : Nat) : List (Nat × cFn R') := [(382, n_X11_needTask (f_X11_needTask F))]
theorem ca_X11_condition_ok {R' : Type} {q : cL} (hst : q.1.stackTraces = false) {D : Nat} (hD : 7 ≤ D) (F : Nat) : ∀ x ∈ (ca_X11_condition (R' := R') F), 1 ≤ D ∧ ceS q RX11 (D - 1) x.1 x.2 := List.forall_mem_cons.mpr ⟨⟨by omega, n_X11_needTask_ok (k := 127) (lw_good_of (tb_ok 685 (by decide +kernel)) rfl) (fun a0 a1 M r h => c_X11_needTask hst (by omega) F a0 a1 M r h)⟩, fun _ h => absurd h List.not_mem_nil⟩
set_option maxRecDepth 20000 in
theorem e_X11_condition_0 (F : Nat) (x0 : Nat) (x1 : Int32) (M : cM) : b_X11_condition_0 F x0 x1 M = run T_X11_condition P_RX11 false 0 (naL na_X11_condition) (caL (ca_X11_condition F)) (lkN th_X11_condition) (lkN sw_X11_condition) krTI kxTI (spL []) (KL []) 22 0 [some (.ref x0), some (.int x1)] [] M := rfl
theorem ok_X11_condition_0 {X : cCtx} {D : Nat} {r : Nat × Int32 × cM} (G : FX X 2 (eTI r) cX11_condition RX11 0 D) {F : Nat} (hca : ∀ x ∈ (ca_X11_condition (R' := Nat × Int32 × cM) F), 1 ≤ D ∧ ceS X.1 RX11 (D - 1) x.1 x.2) : ∀ x0 x1 M, f_X11_condition_0 F x0 x1 M = some r → WX X 2 (eTI r) 0 [some (.ref x0), some (.int x1)] [] M := by
  intro x0 x1 M h
  exact seg_ok G P_RX11_ok T_X11_condition_ok hca (fun _ h => absurd h List.not_mem_nil) sw_X11_condition_ok krTI_ok kxTI_ok (fun _ h => absurd h List.not_mem_nil) ((e_X11_condition_0 F x0 x1 M).symm.trans h)
theorem c_X11_condition {q : cL} (hst : q.1.stackTraces = false) {D : Nat} (hD : 7 ≤ D) (F : Nat) (a0 : Nat) (a1 : Int32) (M : cM) (r : Nat × Int32 × cM) (h : f_X11_condition F a0 a1 M = some r) : CTx q yX11_condition (.code yX11_condition cX11_condition 2 (some .int)) D [.ref a0, .int a1] M (eTI r) ∧ ∃ fs, M[a0]? = some (.inr (9, fs)) := by
  unfold f_X11_condition at h
  split at h
  · next hi => exact ⟨CTx_of (own := RX11) (rk := 0) hst (by decide +kernel) rfl (rfl) (Nat.le_of_ble_eq_true rfl) (fun X hX G => by subst hX; exact ok_X11_condition_0 G (ca_X11_condition_ok hst hD F) a0 a1 M h), isC_of hi⟩
  · cases h
-- PatchbayScript.atomAt(IZII)I
def T_X11_atomAt : List cRow := [(0, .aload_n 0, 1, 0), (1, .iload_n 1, 2, 0), (2, .invokevirtual 127, 5, 0), (5, .iload_n 3, 6, 0), (6, .ifCond .ge 13, 9, 19), (9, .new 112, 12, 0), (19, .iload 4, 21, 0), (21, .ifCond .lt 9, 24, 30), (24, .iload 4, 26, 0), (26, .iconst 4, 27, 0), (27, .if_icmp .le 13, 30, 40), (30, .new 57, 33, 0), (40, .aload_n 0, 41, 0), (41, .getfield 21, 44, 0), (44, .iload_n 1, 45, 0), (45, .aaload, 46, 0), (46, .getfield 155, 49, 0), (49, .astore 5, 51, 0), (51, .aload 5, 53, 0), (53, .getfield 215, 56, 0), (56, .ifCond .eq 16, 59, 72), (59, .iload_n 2, 60, 0), (60, .ifCond .eq 14, 63, 74), (63, .aload 5, 65, 0), (65, .getfield 237, 68, 0), (68, .iconst (-1), 69, 0), (69, .if_icmp .ne 5, 72, 74), (72, .iconst (-1), 73, 0), (73, .ireturn, 74, 0), (74, .iload_n 2, 75, 0), (75, .ifCond .eq 11, 78, 86), (78, .aload 5, 80, 0), (80, .getfield 242, 83, 0), (83, .goto 8, 86, 91), (86, .aload 5, 88, 0), (88, .getfield 246, 91, 0), (91, .astore 6, 93, 0), (93, .iload_n 3, 94, 0), (94, .aload 6, 96, 0), (96, .getfield 249, 99, 0), (99, .if_icmp .ge 23, 102, 122), (102, .iload_n 3, 103, 0), (103, .iconst 4, 104, 0), (104, .if_icmp .ge 18, 107, 122), (107, .aload 6, 109, 0), (109, .getfield 250, 112, 0), (112, .iload_n 3, 113, 0), (113, .iaload, 114, 0), (114, .iload 4, 116, 0), (116, .invokestatic 254, 119, 0), (119, .goto 4, 122, 123), (122, .iconst (-1), 123, 0), (123, .ireturn, 124, 0)]
theorem T_X11_atomAt_ok : T_X11_atomAt.all (rowB cX11_atomAt) = true := by decide +kernel
def th_X11_atomAt : List (Nat × Nat) := [(9, 3), (30, 1)]
theorem th_X11_atomAt_ok {D : Nat} (hD : 6 ≤ D) : ∀ q ∈ th_X11_atomAt, 6 ≤ D ∧ thS RX11 cX11_atomAt q := List.forall_mem_cons.mpr ⟨⟨hD, ⟨112, 116, 174, "a program has no such place", thk_RX11_3_116 (by decide), by decide +kernel, by decide +kernel, Or.inl ⟨by decide +kernel, by decide +kernel, by decide +kernel⟩⟩⟩, List.forall_mem_cons.mpr ⟨⟨hD, ⟨57, 61, 240, "an atom has no such number", thk_RX11_1_61 (by decide), by decide +kernel, by decide +kernel, Or.inl ⟨by decide +kernel, by decide +kernel, by decide +kernel⟩⟩⟩, fun _ h => absurd h List.not_mem_nil⟩⟩
def sw_X11_atomAt : List (Nat × (List (Int32 × Nat) × Nat)) := []
theorem sw_X11_atomAt_ok : ∀ q ∈ sw_X11_atomAt, swS cX11_atomAt q := fun _ h => absurd h List.not_mem_nil
def na_X11_atomAt : List (Nat × Nat) := [(382, 2), (762, 2)]
def ca_X11_atomAt {R' : Type} (F : Nat) : List (Nat × cFn R') := [(382, n_X11_needTask (f_X11_needTask F)), (762, n_X0_numberOf (f_X0_numberOf F))]
theorem ca_X11_atomAt_ok {R' : Type} {q : cL} (hst : q.1.stackTraces = false) {D : Nat} (hD : 7 ≤ D) (F : Nat) : ∀ x ∈ (ca_X11_atomAt (R' := R') F), 1 ≤ D ∧ ceS q RX11 (D - 1) x.1 x.2 := List.forall_mem_cons.mpr ⟨⟨by omega, n_X11_needTask_ok (k := 127) (lw_good_of (tb_ok 685 (by decide +kernel)) rfl) (fun a0 a1 M r h => c_X11_needTask hst (by omega) F a0 a1 M r h)⟩, List.forall_mem_cons.mpr ⟨⟨by omega, n_X0_numberOf_ok (k := 254) (lw_good_of (tb_ok 1036 (by decide +kernel)) rfl) (fun a0 a1 M r h => c_X0_numberOf hst (by omega) F a0 a1 M r h)⟩, fun _ h => absurd h List.not_mem_nil⟩⟩
def kd_X11_atomAt_91 (g : Int32 → Int32 → Nat → cM → Option (Nat × Int32 × cM)) : cKf (Nat × Int32 × cM) := fun vs st M => (lI vs 3).bind fun x3 => (lI vs 4).bind fun x4 => match st with
  | [.ref s0] => g x3 x4 s0 M
  | _ => none
theorem kf_X11_atomAt_91 {X : cCtx} {o : cO} {r : Nat × Int32 × cM} {g : Int32 → Int32 → Nat → cM → Option (Nat × Int32 × cM)} (hg : ∀ x3 x4 s0 M, g x3 x4 s0 M = some r → WX X 7 o 91 [none, none, none, some (.int x3), some (.int x4), none, none] [.ref s0] M) : ∀ vs st M, kd_X11_atomAt_91 g vs st M = some r → WX X 7 o 91 vs st M := by
  intro vs st M h
  unfold kd_X11_atomAt_91 at h
  obtain ⟨x3, h3, h⟩ := Option.bind_eq_some_iff.mp h
  obtain ⟨x4, h4, h⟩ := Option.bind_eq_some_iff.mp h
  split at h
  · exact WX_weak (hg _ _ _ _ h) rfl ⟨lI_of h3, lI_of h4, trivial⟩
  · cases h
set_option maxRecDepth 20000 in
theorem e_X11_atomAt_91 (F : Nat) (x3 : Int32) (x4 : Int32) (s0 : Nat) (M : cM) : b_X11_atomAt_91 F x3 x4 s0 M = run T_X11_atomAt P_RX11 false 0 (naL na_X11_atomAt) (caL (ca_X11_atomAt F)) (lkN th_X11_atomAt) (lkN sw_X11_atomAt) krTI kxTI (spL []) (KL []) 56 91 [none, none, none, some (.int x3), some (.int x4), none, none] [.ref s0] M := rfl
theorem ok_X11_atomAt_91 {X : cCtx} {D : Nat} {r : Nat × Int32 × cM} (G : FX X 7 (eTI r) cX11_atomAt RX11 0 D) (h6 : 6 ≤ D) {F : Nat} (hca : ∀ x ∈ (ca_X11_atomAt (R' := Nat × Int32 × cM) F), 1 ≤ D ∧ ceS X.1 RX11 (D - 1) x.1 x.2) : ∀ x3 x4 s0 M, f_X11_atomAt_91 F x3 x4 s0 M = some r → WX X 7 (eTI r) 91 [none, none, none, some (.int x3), some (.int x4), none, none] [.ref s0] M := by
  intro x3 x4 s0 M h
  exact seg_ok G P_RX11_ok T_X11_atomAt_ok hca (th_X11_atomAt_ok h6) sw_X11_atomAt_ok krTI_ok kxTI_ok (fun _ h => absurd h List.not_mem_nil) ((e_X11_atomAt_91 F x3 x4 s0 M).symm.trans h)
set_option maxRecDepth 20000 in
theorem e_X11_atomAt_0 (F : Nat) (t91 : Int32 → Int32 → Nat → cM → Option (Nat × Int32 × cM)) (x0 : Nat) (x1 : Int32) (x2 : Int32) (x3 : Int32) (x4 : Int32) (M : cM) : b_X11_atomAt_0 F t91 x0 x1 x2 x3 x4 M = run T_X11_atomAt P_RX11 false 0 (naL na_X11_atomAt) (caL (ca_X11_atomAt F)) (lkN th_X11_atomAt) (lkN sw_X11_atomAt) krTI kxTI (spL [91]) (KL [(91, kd_X11_atomAt_91 t91)]) 56 0 [some (.ref x0), some (.int x1), some (.int x2), some (.int x3), some (.int x4), none, none] [] M := rfl
theorem ok_X11_atomAt_0 {X : cCtx} {D : Nat} {r : Nat × Int32 × cM} (G : FX X 7 (eTI r) cX11_atomAt RX11 0 D) (h6 : 6 ≤ D) {F : Nat} (hca : ∀ x ∈ (ca_X11_atomAt (R' := Nat × Int32 × cM) F), 1 ≤ D ∧ ceS X.1 RX11 (D - 1) x.1 x.2) : ∀ x0 x1 x2 x3 x4 M, f_X11_atomAt_0 F x0 x1 x2 x3 x4 M = some r → WX X 7 (eTI r) 0 [some (.ref x0), some (.int x1), some (.int x2), some (.int x3), some (.int x4), none, none] [] M := by
  intro x0 x1 x2 x3 x4 M h
  exact seg_ok G P_RX11_ok T_X11_atomAt_ok hca (th_X11_atomAt_ok h6) sw_X11_atomAt_ok krTI_ok kxTI_ok (List.forall_mem_cons.mpr ⟨kf_X11_atomAt_91 (ok_X11_atomAt_91 G h6 hca), fun _ h => absurd h List.not_mem_nil⟩) ((e_X11_atomAt_0 F (f_X11_atomAt_91 F) x0 x1 x2 x3 x4 M).symm.trans h)
theorem c_X11_atomAt {q : cL} (hst : q.1.stackTraces = false) {D : Nat} (hD : 7 ≤ D) (F : Nat) (a0 : Nat) (a1 : Int32) (a2 : Int32) (a3 : Int32) (a4 : Int32) (M : cM) (r : Nat × Int32 × cM) (h : f_X11_atomAt F a0 a1 a2 a3 a4 M = some r) : CTx q yX11_atomAt (.code yX11_atomAt cX11_atomAt 7 (some .int)) D [.ref a0, .int a1, .int a2, .int a3, .int a4] M (eTI r) ∧ ∃ fs, M[a0]? = some (.inr (9, fs)) := by
  unfold f_X11_atomAt at h
  split at h
  · next hi => exact ⟨CTx_of (own := RX11) (rk := 0) hst (by decide +kernel) rfl (rfl) (Nat.le_of_ble_eq_true rfl) (fun X hX G => by subst hX; exact ok_X11_atomAt_0 G (by omega) (ca_X11_atomAt_ok hst hD F) a0 a1 a2 a3 a4 M h), isC_of hi⟩
  · cases h
-- PatchbayScript.preview(III)C
def T_X11_preview : List cRow := [(0, .aload_n 0, 1, 0), (1, .iload_n 1, 2, 0), (2, .invokevirtual 127, 5, 0), (5, .aload_n 0, 6, 0), (6, .iload_n 2, 7, 0), (7, .invokevirtual 105, 10, 0), (10, .iload_n 3, 11, 0), (11, .ifCond .ge 14, 14, 25), (14, .new 112, 17, 0), (25, .aload_n 0, 26, 0), (26, .getfield 21, 29, 0), (29, .iload_n 1, 30, 0), (30, .aaload, 31, 0), (31, .getfield 155, 34, 0), (34, .aload_n 0, 35, 0), (35, .getfield 28, 38, 0), (38, .iload_n 2, 39, 0), (39, .aaload, 40, 0), (40, .getfield 109, 43, 0), (43, .aload_n 0, 44, 0), (44, .getfield 16, 47, 0), (47, .invokevirtual 159, 50, 0), (50, .ifCond .ne 6, 53, 56), (53, .bipush 63, 55, 0), (55, .ireturn, 56, 0), (56, .iload_n 3, 57, 0), (57, .aload_n 0, 58, 0), (58, .getfield 16, 61, 0), (61, .getfield 64, 64, 0), (64, .if_icmp .ge 14, 67, 78), (67, .aload_n 0, 68, 0), (68, .getfield 16, 71, 0), (71, .iload_n 3, 72, 0), (72, .invokevirtual 117, 75, 0), (75, .goto 5, 78, 80), (78, .bipush 33, 80, 0), (80, .ireturn, 81, 0)]
theorem T_X11_preview_ok : T_X11_preview.all (rowB cX11_preview) = true := by decide +kernel
def th_X11_preview : List (Nat × Nat) := [(14, 3)]
theorem th_X11_preview_ok {D : Nat} (hD : 6 ≤ D) : ∀ q ∈ th_X11_preview, 6 ≤ D ∧ thS RX11 cX11_preview q := List.forall_mem_cons.mpr ⟨⟨hD, ⟨112, 116, 257, "a text has no such place", thk_RX11_3_116 (by decide), by decide +kernel, by decide +kernel, Or.inr ⟨by decide +kernel, by decide +kernel, by decide +kernel⟩⟩⟩, fun _ h => absurd h List.not_mem_nil⟩
def sw_X11_preview : List (Nat × (List (Int32 × Nat) × Nat)) := []
theorem sw_X11_preview_ok : ∀ q ∈ sw_X11_preview, swS cX11_preview q := fun _ h => absurd h List.not_mem_nil
def na_X11_preview : List (Nat × Nat) := [(382, 2), (316, 2), (478, 3), (352, 2)]
def ca_X11_preview {R' : Type} (F : Nat) : List (Nat × cFn R') := [(382, n_X11_needTask (f_X11_needTask F)), (316, n_X11_needLine (f_X11_needLine F)), (478, n_X4_makes (f_X4_makes F)), (352, n_X10_at (f_X10_at F))]
theorem ca_X11_preview_ok {R' : Type} {q : cL} (hst : q.1.stackTraces = false) {D : Nat} (hD : 7 ≤ D) (F : Nat) : ∀ x ∈ (ca_X11_preview (R' := R') F), 1 ≤ D ∧ ceS q RX11 (D - 1) x.1 x.2 := List.forall_mem_cons.mpr ⟨⟨by omega, n_X11_needTask_ok (k := 127) (lw_good_of (tb_ok 685 (by decide +kernel)) rfl) (fun a0 a1 M r h => c_X11_needTask hst (by omega) F a0 a1 M r h)⟩, List.forall_mem_cons.mpr ⟨⟨by omega, n_X11_needLine_ok (k := 105) (lw_good_of (tb_ok 640 (by decide +kernel)) rfl) (fun a0 a1 M r h => c_X11_needLine hst (by omega) F a0 a1 M r h)⟩, List.forall_mem_cons.mpr ⟨⟨by omega, n_X4_makes_ok (k := 159) (lw_good_of (tb_ok 554 (by decide +kernel)) rfl) (fun a0 a1 a2 M r h => c_X4_makes hst (by omega) F a0 a1 a2 M r h)⟩, List.forall_mem_cons.mpr ⟨⟨by omega, n_X10_at_ok (k := 117) (lw_good_of (tb_ok 668 (by decide +kernel)) rfl) (fun a0 a1 M r h => c_X10_at hst (by omega) F a0 a1 M r h)⟩, fun _ h => absurd h List.not_mem_nil⟩⟩⟩⟩
set_option maxRecDepth 20000 in
theorem e_X11_preview_0 (F : Nat) (x0 : Nat) (x1 : Int32) (x2 : Int32) (x3 : Int32) (M : cM) : b_X11_preview_0 F x0 x1 x2 x3 M = run T_X11_preview P_RX11 false 2 (naL na_X11_preview) (caL (ca_X11_preview F)) (lkN th_X11_preview) (lkN sw_X11_preview) krTI kxTI (spL []) (KL []) 40 0 [some (.ref x0), some (.int x1), some (.int x2), some (.int x3)] [] M := rfl
theorem ok_X11_preview_0 {X : cCtx} {D : Nat} {r : Nat × Int32 × cM} (G : FX X 4 (eTI r) cX11_preview RX11 2 D) (h6 : 6 ≤ D) {F : Nat} (hca : ∀ x ∈ (ca_X11_preview (R' := Nat × Int32 × cM) F), 1 ≤ D ∧ ceS X.1 RX11 (D - 1) x.1 x.2) : ∀ x0 x1 x2 x3 M, f_X11_preview_0 F x0 x1 x2 x3 M = some r → WX X 4 (eTI r) 0 [some (.ref x0), some (.int x1), some (.int x2), some (.int x3)] [] M := by
  intro x0 x1 x2 x3 M h
  exact seg_ok G P_RX11_ok T_X11_preview_ok hca (th_X11_preview_ok h6) sw_X11_preview_ok krTI_ok kxTI_ok (fun _ h => absurd h List.not_mem_nil) ((e_X11_preview_0 F x0 x1 x2 x3 M).symm.trans h)
theorem c_X11_preview {q : cL} (hst : q.1.stackTraces = false) {D : Nat} (hD : 7 ≤ D) (F : Nat) (a0 : Nat) (a1 : Int32) (a2 : Int32) (a3 : Int32) (M : cM) (r : Nat × Int32 × cM) (h : f_X11_preview F a0 a1 a2 a3 M = some r) : CTx q yX11_preview (.code yX11_preview cX11_preview 4 (some .char)) D [.ref a0, .int a1, .int a2, .int a3] M (eTI r) ∧ ∃ fs, M[a0]? = some (.inr (9, fs)) := by
  unfold f_X11_preview at h
  split at h
  · next hi => exact ⟨CTx_of (own := RX11) (rk := 2) hst (by decide +kernel) rfl (rfl) (Nat.le_of_ble_eq_true rfl) (fun X hX G => by subst hX; exact ok_X11_preview_0 G (by omega) (ca_X11_preview_ok hst hD F) a0 a1 a2 a3 M h), isC_of hi⟩
  · cases h
-- PatchbayScript.run(IIII)I
def T_X11_run : List cRow := [(0, .aload_n 0, 1, 0), (1, .iload_n 1, 2, 0), (2, .invokevirtual 127, 5, 0), (5, .aload_n 0, 6, 0), (6, .iload_n 2, 7, 0), (7, .invokevirtual 105, 10, 0), (10, .aload_n 0, 11, 0), (11, .iload_n 3, 12, 0), (12, .invokevirtual 105, 15, 0), (15, .iload_n 3, 16, 0), (16, .iload_n 2, 17, 0), (17, .if_icmp .lt 14, 20, 31), (20, .iload 4, 22, 0), (22, .ifCond .lt 9, 25, 31), (25, .iload 4, 27, 0), (27, .iconst 2, 28, 0), (28, .if_icmp .le 14, 31, 42), (31, .new 57, 34, 0), (42, .aload_n 0, 43, 0), (43, .getfield 21, 46, 0), (46, .iload_n 1, 47, 0), (47, .aaload, 48, 0), (48, .getfield 155, 51, 0), (51, .getfield 215, 54, 0), (54, .ifCond .ne 14, 57, 68), (57, .new 68, 60, 0), (68, .aload_n 0, 69, 0), (69, .getfield 81, 72, 0), (72, .bipush 30, 74, 0), (74, .if_icmp .lt 14, 77, 88), (77, .new 68, 80, 0), (88, .aload_n 0, 89, 0), (89, .aload_n 0, 90, 0), (90, .getfield 21, 93, 0), (93, .iload_n 1, 94, 0), (94, .aaload, 95, 0), (95, .iload_n 2, 96, 0), (96, .iload_n 3, 97, 0), (97, .iload 4, 99, 0), (99, .invokevirtual 101, 102, 0), (102, .ireturn, 103, 0)]
theorem T_X11_run_ok : T_X11_run.all (rowB cX11_run) = true := by decide +kernel
def th_X11_run : List (Nat × Nat) := [(31, 1), (57, 2), (77, 2)]
theorem th_X11_run_ok {D : Nat} (hD : 6 ≤ D) : ∀ q ∈ th_X11_run, 6 ≤ D ∧ thS RX11 cX11_run q := List.forall_mem_cons.mpr ⟨⟨hD, ⟨57, 61, 259, "there is no such run", thk_RX11_1_61 (by decide), by decide +kernel, by decide +kernel, Or.inr ⟨by decide +kernel, by decide +kernel, by decide +kernel⟩⟩⟩, List.forall_mem_cons.mpr ⟨⟨hD, ⟨68, 72, 261, "the task has learnt nothing", thk_RX11_2_72 (by decide), by decide +kernel, by decide +kernel, Or.inr ⟨by decide +kernel, by decide +kernel, by decide +kernel⟩⟩⟩, List.forall_mem_cons.mpr ⟨⟨hD, ⟨68, 72, 263, "there were as many runs as there may be", thk_RX11_2_72 (by decide), by decide +kernel, by decide +kernel, Or.inr ⟨by decide +kernel, by decide +kernel, by decide +kernel⟩⟩⟩, fun _ h => absurd h List.not_mem_nil⟩⟩⟩
def sw_X11_run : List (Nat × (List (Int32 × Nat) × Nat)) := []
theorem sw_X11_run_ok : ∀ q ∈ sw_X11_run, swS cX11_run q := fun _ h => absurd h List.not_mem_nil
def na_X11_run : List (Nat × Nat) := [(382, 2), (316, 2), (304, 5)]
def ca_X11_run {R' : Type} (F : Nat) : List (Nat × cFn R') := [(382, n_X11_needTask (f_X11_needTask F)), (316, n_X11_needLine (f_X11_needLine F)), (304, n_X11_runOn (f_X11_runOn F))]
theorem ca_X11_run_ok {R' : Type} {q : cL} (hst : q.1.stackTraces = false) {D : Nat} (hD : 7 ≤ D) (F : Nat) : ∀ x ∈ (ca_X11_run (R' := R') F), 1 ≤ D ∧ ceS q RX11 (D - 1) x.1 x.2 := List.forall_mem_cons.mpr ⟨⟨by omega, n_X11_needTask_ok (k := 127) (lw_good_of (tb_ok 685 (by decide +kernel)) rfl) (fun a0 a1 M r h => c_X11_needTask hst (by omega) F a0 a1 M r h)⟩, List.forall_mem_cons.mpr ⟨⟨by omega, n_X11_needLine_ok (k := 105) (lw_good_of (tb_ok 640 (by decide +kernel)) rfl) (fun a0 a1 M r h => c_X11_needLine hst (by omega) F a0 a1 M r h)⟩, List.forall_mem_cons.mpr ⟨⟨by omega, n_X11_runOn_ok (k := 101) (lw_good_of (tb_ok 538 (by decide +kernel)) rfl) (fun a0 a1 a2 a3 a4 M r h => c_X11_runOn hst (by omega) F a0 a1 a2 a3 a4 M r h)⟩, fun _ h => absurd h List.not_mem_nil⟩⟩⟩
set_option maxRecDepth 20000 in
theorem e_X11_run_0 (F : Nat) (x0 : Nat) (x1 : Int32) (x2 : Int32) (x3 : Int32) (x4 : Int32) (M : cM) : b_X11_run_0 F x0 x1 x2 x3 x4 M = run T_X11_run P_RX11 false 0 (naL na_X11_run) (caL (ca_X11_run F)) (lkN th_X11_run) (lkN sw_X11_run) krTI kxTI (spL []) (KL []) 44 0 [some (.ref x0), some (.int x1), some (.int x2), some (.int x3), some (.int x4)] [] M := rfl
theorem ok_X11_run_0 {X : cCtx} {D : Nat} {r : Nat × Int32 × cM} (G : FX X 5 (eTI r) cX11_run RX11 0 D) (h6 : 6 ≤ D) {F : Nat} (hca : ∀ x ∈ (ca_X11_run (R' := Nat × Int32 × cM) F), 1 ≤ D ∧ ceS X.1 RX11 (D - 1) x.1 x.2) : ∀ x0 x1 x2 x3 x4 M, f_X11_run_0 F x0 x1 x2 x3 x4 M = some r → WX X 5 (eTI r) 0 [some (.ref x0), some (.int x1), some (.int x2), some (.int x3), some (.int x4)] [] M := by
  intro x0 x1 x2 x3 x4 M h
  exact seg_ok G P_RX11_ok T_X11_run_ok hca (th_X11_run_ok h6) sw_X11_run_ok krTI_ok kxTI_ok (fun _ h => absurd h List.not_mem_nil) ((e_X11_run_0 F x0 x1 x2 x3 x4 M).symm.trans h)
theorem c_X11_run {q : cL} (hst : q.1.stackTraces = false) {D : Nat} (hD : 7 ≤ D) (F : Nat) (a0 : Nat) (a1 : Int32) (a2 : Int32) (a3 : Int32) (a4 : Int32) (M : cM) (r : Nat × Int32 × cM) (h : f_X11_run F a0 a1 a2 a3 a4 M = some r) : CTx q yX11_run (.code yX11_run cX11_run 5 (some .int)) D [.ref a0, .int a1, .int a2, .int a3, .int a4] M (eTI r) ∧ ∃ fs, M[a0]? = some (.inr (9, fs)) := by
  unfold f_X11_run at h
  split at h
  · next hi => exact ⟨CTx_of (own := RX11) (rk := 0) hst (by decide +kernel) rfl (rfl) (Nat.le_of_ble_eq_true rfl) (fun X hX G => by subst hX; exact ok_X11_run_0 G (by omega) (ca_X11_run_ok hst hD F) a0 a1 a2 a3 a4 M h), isC_of hi⟩
  · cases h
-- PatchbayScript.runs()I
def T_X11_runs : List cRow := [(0, .aload_n 0, 1, 0), (1, .getfield 81, 4, 0), (4, .ireturn, 5, 0)]
theorem T_X11_runs_ok : T_X11_runs.all (rowB cX11_runs) = true := by decide +kernel
def th_X11_runs : List (Nat × Nat) := []
def sw_X11_runs : List (Nat × (List (Int32 × Nat) × Nat)) := []
theorem sw_X11_runs_ok : ∀ q ∈ sw_X11_runs, swS cX11_runs q := fun _ h => absurd h List.not_mem_nil
def na_X11_runs : List (Nat × Nat) := []
def ca_X11_runs {R' : Type} (F : Nat) : List (Nat × cFn R') := []
theorem ca_X11_runs_ok {R' : Type} {q : cL} (hst : q.1.stackTraces = false) {D : Nat} (hD : 0 ≤ D) (F : Nat) : ∀ x ∈ (ca_X11_runs (R' := R') F), 1 ≤ D ∧ ceS q RX11 (D - 1) x.1 x.2 := fun _ h => absurd h List.not_mem_nil
set_option maxRecDepth 20000 in
theorem e_X11_runs_0 (F : Nat) (x0 : Nat) (M : cM) : b_X11_runs_0 F x0 M = run T_X11_runs P_RX11 false 0 (naL na_X11_runs) (caL (ca_X11_runs F)) (lkN th_X11_runs) (lkN sw_X11_runs) krI kxN (spL []) (KL []) 6 0 [some (.ref x0)] [] M := rfl
theorem ok_X11_runs_0 {X : cCtx} {D : Nat} {r : Int32 × cM} (G : FX X 1 (eI r) cX11_runs RX11 0 D) {F : Nat} (hca : ∀ x ∈ (ca_X11_runs (R' := Int32 × cM) F), 1 ≤ D ∧ ceS X.1 RX11 (D - 1) x.1 x.2) : ∀ x0 M, f_X11_runs_0 F x0 M = some r → WX X 1 (eI r) 0 [some (.ref x0)] [] M := by
  intro x0 M h
  exact seg_ok G P_RX11_ok T_X11_runs_ok hca (fun _ h => absurd h List.not_mem_nil) sw_X11_runs_ok krI_ok (kxN_ok (f := eI)) (fun _ h => absurd h List.not_mem_nil) ((e_X11_runs_0 F x0 M).symm.trans h)
theorem c_X11_runs {q : cL} (hst : q.1.stackTraces = false) {D : Nat} (hD : 0 ≤ D) (F : Nat) (a0 : Nat) (M : cM) (r : Int32 × cM) (h : f_X11_runs F a0 M = some r) : CTx q yX11_runs (.code yX11_runs cX11_runs 1 (some .int)) D [.ref a0] M (eI r) ∧ ∃ fs, M[a0]? = some (.inr (9, fs)) := by
  unfold f_X11_runs at h
  split at h
  · next hi => exact ⟨CTx_of (own := RX11) (rk := 0) hst (by decide +kernel) rfl (rfl) (Nat.le_of_ble_eq_true rfl) (fun X hX G => by subst hX; exact ok_X11_runs_0 G (ca_X11_runs_ok hst hD F) a0 M h), isC_of hi⟩
  · cases h
-- PatchbayScript.shownAt(I)LPatchbayScript$Text;
def T_X11_shownAt : List cRow := [(0, .iload_n 1, 1, 0), (1, .invokestatic 309, 4, 0), (4, .istore_n 2, 5, 0), (5, .iload_n 1, 6, 0), (6, .invokestatic 312, 9, 0), (9, .istore_n 3, 10, 0), (10, .iload_n 2, 11, 0), (11, .iconst 3, 12, 0), (12, .if_icmp .ge 17, 15, 29), (15, .aload_n 0, 16, 0), (16, .getfield 21, 19, 0), (19, .iload_n 2, 20, 0), (20, .aaload, 21, 0), (21, .getfield 315, 24, 0), (24, .iload_n 3, 25, 0), (25, .aaload, 26, 0), (26, .goto 7, 29, 33), (29, .aload_n 0, 30, 0), (30, .getfield 16, 33, 0), (33, .areturn, 34, 0)]
theorem T_X11_shownAt_ok : T_X11_shownAt.all (rowB cX11_shownAt) = true := by decide +kernel
def th_X11_shownAt : List (Nat × Nat) := []
def sw_X11_shownAt : List (Nat × (List (Int32 × Nat) × Nat)) := []
theorem sw_X11_shownAt_ok : ∀ q ∈ sw_X11_shownAt, swS cX11_shownAt q := fun _ h => absurd h List.not_mem_nil
def na_X11_shownAt : List (Nat × Nat) := [(927, 1), (936, 1)]
def ca_X11_shownAt {R' : Type} (F : Nat) : List (Nat × cFn R') := [(927, n_X5_taskOfStep (f_X5_taskOfStep F)), (936, n_X5_exampleOfStep (f_X5_exampleOfStep F))]
theorem ca_X11_shownAt_ok {R' : Type} {q : cL} (hst : q.1.stackTraces = false) {D : Nat} (hD : 1 ≤ D) (F : Nat) : ∀ x ∈ (ca_X11_shownAt (R' := R') F), 1 ≤ D ∧ ceS q RX11 (D - 1) x.1 x.2 := List.forall_mem_cons.mpr ⟨⟨by omega, n_X5_taskOfStep_ok (k := 309) (lw_good_of (tb_ok 1078 (by decide +kernel)) rfl) (fun a0 M r h => c_X5_taskOfStep hst (by omega) F a0 M r h)⟩, List.forall_mem_cons.mpr ⟨⟨by omega, n_X5_exampleOfStep_ok (k := 312) (lw_good_of (tb_ok 1081 (by decide +kernel)) rfl) (fun a0 M r h => c_X5_exampleOfStep hst (by omega) F a0 M r h)⟩, fun _ h => absurd h List.not_mem_nil⟩⟩
def kd_X11_shownAt_5 (g : Nat → Int32 → Int32 → cM → Option (Nat × cM)) : cKf (Nat × cM) := fun vs st M => (lR vs 0).bind fun x0 => (lI vs 1).bind fun x1 => (lI vs 2).bind fun x2 => match st with
  | [] => g x0 x1 x2 M
  | _ => none
theorem kf_X11_shownAt_5 {X : cCtx} {o : cO} {r : Nat × cM} {g : Nat → Int32 → Int32 → cM → Option (Nat × cM)} (hg : ∀ x0 x1 x2 M, g x0 x1 x2 M = some r → WX X 4 o 5 [some (.ref x0), some (.int x1), some (.int x2), none] [] M) : ∀ vs st M, kd_X11_shownAt_5 g vs st M = some r → WX X 4 o 5 vs st M := by
  intro vs st M h
  unfold kd_X11_shownAt_5 at h
  obtain ⟨x0, h0, h⟩ := Option.bind_eq_some_iff.mp h
  obtain ⟨x1, h1, h⟩ := Option.bind_eq_some_iff.mp h
  obtain ⟨x2, h2, h⟩ := Option.bind_eq_some_iff.mp h
  split at h
  · exact WX_weak (hg _ _ _ _ h) rfl ⟨lR_of h0, lI_of h1, lI_of h2, trivial⟩
  · cases h
set_option maxRecDepth 20000 in
theorem e_X11_shownAt_5 (F : Nat) (x0 : Nat) (x1 : Int32) (x2 : Int32) (M : cM) : b_X11_shownAt_5 F x0 x1 x2 M = run T_X11_shownAt P_RX11 false 4 (naL na_X11_shownAt) (caL (ca_X11_shownAt F)) (lkN th_X11_shownAt) (lkN sw_X11_shownAt) krR kxN (spL []) (KL []) 23 5 [some (.ref x0), some (.int x1), some (.int x2), none] [] M := rfl
theorem ok_X11_shownAt_5 {X : cCtx} {D : Nat} {r : Nat × cM} (G : FX X 4 (eR r) cX11_shownAt RX11 4 D) {F : Nat} (hca : ∀ x ∈ (ca_X11_shownAt (R' := Nat × cM) F), 1 ≤ D ∧ ceS X.1 RX11 (D - 1) x.1 x.2) : ∀ x0 x1 x2 M, f_X11_shownAt_5 F x0 x1 x2 M = some r → WX X 4 (eR r) 5 [some (.ref x0), some (.int x1), some (.int x2), none] [] M := by
  intro x0 x1 x2 M h
  exact seg_ok G P_RX11_ok T_X11_shownAt_ok hca (fun _ h => absurd h List.not_mem_nil) sw_X11_shownAt_ok krR_ok (kxN_ok (f := eR)) (fun _ h => absurd h List.not_mem_nil) ((e_X11_shownAt_5 F x0 x1 x2 M).symm.trans h)
set_option maxRecDepth 20000 in
theorem e_X11_shownAt_0 (F : Nat) (t5 : Nat → Int32 → Int32 → cM → Option (Nat × cM)) (x0 : Nat) (x1 : Int32) (M : cM) : b_X11_shownAt_0 F t5 x0 x1 M = run T_X11_shownAt P_RX11 false 4 (naL na_X11_shownAt) (caL (ca_X11_shownAt F)) (lkN th_X11_shownAt) (lkN sw_X11_shownAt) krR kxN (spL [5]) (KL [(5, kd_X11_shownAt_5 t5)]) 23 0 [some (.ref x0), some (.int x1), none, none] [] M := rfl
theorem ok_X11_shownAt_0 {X : cCtx} {D : Nat} {r : Nat × cM} (G : FX X 4 (eR r) cX11_shownAt RX11 4 D) {F : Nat} (hca : ∀ x ∈ (ca_X11_shownAt (R' := Nat × cM) F), 1 ≤ D ∧ ceS X.1 RX11 (D - 1) x.1 x.2) : ∀ x0 x1 M, f_X11_shownAt_0 F x0 x1 M = some r → WX X 4 (eR r) 0 [some (.ref x0), some (.int x1), none, none] [] M := by
  intro x0 x1 M h
  exact seg_ok G P_RX11_ok T_X11_shownAt_ok hca (fun _ h => absurd h List.not_mem_nil) sw_X11_shownAt_ok krR_ok (kxN_ok (f := eR)) (List.forall_mem_cons.mpr ⟨kf_X11_shownAt_5 (ok_X11_shownAt_5 G hca), fun _ h => absurd h List.not_mem_nil⟩) ((e_X11_shownAt_0 F (f_X11_shownAt_5 F) x0 x1 M).symm.trans h)
theorem c_X11_shownAt {q : cL} (hst : q.1.stackTraces = false) {D : Nat} (hD : 1 ≤ D) (F : Nat) (a0 : Nat) (a1 : Int32) (M : cM) (r : Nat × cM) (h : f_X11_shownAt F a0 a1 M = some r) : CTx q yX11_shownAt (.code yX11_shownAt cX11_shownAt 4 (some (.object "PatchbayScript$Text"))) D [.ref a0, .int a1] M (eR r) ∧ ∃ fs, M[a0]? = some (.inr (9, fs)) := by
  unfold f_X11_shownAt at h
  split at h
  · next hi => exact ⟨CTx_of (own := RX11) (rk := 4) hst (by decide +kernel) rfl (⟨_, rfl⟩) (Nat.le_of_ble_eq_true rfl) (fun X hX G => by subst hX; exact ok_X11_shownAt_0 G (ca_X11_shownAt_ok hst hD F) a0 a1 M h), isC_of hi⟩
  · cases h
def n_X11_shownAt {R' : Type} (f : Nat → Int32 → cM → Option (Nat × cM)) : cFn R' := fun as M κ κx => match as with
  | [.ref a0, .int a1] => (f a0 a1 M).bind fun p => κ (some (.ref p.1)) p.2
  | _ => none
theorem w_X11_shownAt : ∀ w ∈ [Cond.instanceMethod yX11_shownAt, .selects yX11_shownAt.cls yX11_shownAt yX11_shownAt, .initialized yX11_shownAt.cls, .code yX11_shownAt cX11_shownAt 4 (some (.object "PatchbayScript$Text"))], w ∈ lw_good := List.forall_mem_cons.mpr ⟨lw_good_of (tb_ok 1076 (by decide +kernel)) rfl, List.forall_mem_cons.mpr ⟨lw_good_of (ts_ok 29 (by decide +kernel)) rfl, List.forall_mem_cons.mpr ⟨lw_good_of (tb_ok 1 (by decide +kernel)) rfl, List.forall_mem_cons.mpr ⟨lw_good_of (tb_ok 1077 (by decide +kernel)) rfl, fun _ h => absurd h List.not_mem_nil⟩⟩⟩⟩
theorem n_X11_shownAt_ok {R' : Type} {q : cL} {own : String} {d k : Nat} {f : Nat → Int32 → cM → Option (Nat × cM)} (hl : Cond.methodLink own k yX11_shownAt ∈ lw_good) (hf : ∀ a0 a1 M r, f a0 a1 M = some r → CTx q yX11_shownAt (.code yX11_shownAt cX11_shownAt 4 (some (.object "PatchbayScript$Text"))) d [.ref a0, .int a1] M (eR r) ∧ ∃ fs, M[a0]? = some (.inr (9, fs))) : ceS q own d (3 * k + 1) (n_X11_shownAt (R' := R') f) := by
  intro as M κ κx r h
  unfold n_X11_shownAt at h
  split at h
  · obtain ⟨p, h1, h2⟩ := Option.bind_eq_some_iff.mp h
    obtain ⟨hc, fs, ha⟩ := hf _ _ _ _ h1
    exact ⟨eR p, fun _ => h2, fun hne => absurd rfl hne, Or.inr (Or.inl ⟨yX11_shownAt, cX11_shownAt, 4, (some (.object "PatchbayScript$Text")), k, 1, _, _, 9, TX11, 10, fs, rfl, rfl, hc, ha, rfl, List.forall_mem_cons.mpr ⟨hl, w_X11_shownAt⟩, ⟨rfl, by decide +kernel, by decide +kernel, by decide +kernel⟩, rfl, by decide⟩)⟩
  · cases h
-- PatchbayScript.makeAgain(LPatchbayScript$Line;)V
def T_X11_makeAgain : List cRow := [(0, .aload_n 1, 1, 0), (1, .getfield 109, 4, 0), (4, .aload_n 1, 5, 0), (5, .getfield 294, 8, 0), (8, .invokevirtual 297, 11, 0), (11, .iconst 0, 12, 0), (12, .istore_n 2, 13, 0), (13, .iload_n 2, 14, 0), (14, .aload_n 1, 15, 0), (15, .getfield 299, 18, 0), (18, .if_icmp .ge 81, 21, 99), (21, .aload_n 1, 22, 0), (22, .getfield 302, 25, 0), (25, .iload_n 2, 26, 0), (26, .iaload, 27, 0), (27, .istore_n 3, 28, 0), (28, .iload_n 3, 29, 0), (29, .ifCond .ge 18, 32, 47), (32, .aload_n 1, 33, 0), (33, .getfield 109, 36, 0), (36, .aload_n 0, 37, 0), (37, .iload_n 3, 38, 0), (38, .invokevirtual 305, 41, 0), (41, .invokevirtual 297, 44, 0), (44, .goto 49, 47, 93), (47, .iload_n 3, 48, 0), (48, .bipush 30, 50, 0), (50, .if_icmp .ge 43, 53, 93), (53, .aload_n 0, 54, 0), (54, .getfield 40, 57, 0), (57, .iload_n 3, 58, 0), (58, .baload, 59, 0), (59, .ifCond .eq 34, 62, 93), (62, .aload_n 0, 63, 0), (63, .getfield 35, 66, 0), (66, .iload_n 3, 67, 0), (67, .aaload, 68, 0), (68, .aload_n 1, 69, 0), (69, .getfield 109, 72, 0), (72, .aload_n 0, 73, 0), (73, .getfield 16, 76, 0), (76, .invokevirtual 159, 79, 0), (79, .ifCond .eq 14, 82, 93), (82, .aload_n 1, 83, 0), (83, .getfield 109, 86, 0), (86, .aload_n 0, 87, 0), (87, .getfield 16, 90, 0), (90, .invokevirtual 297, 93, 0), (93, .iinc 2 1, 96, 0), (96, .goto (-83), 99, 13), (99, .return_, 100, 0)]
theorem T_X11_makeAgain_ok : T_X11_makeAgain.all (rowB cX11_makeAgain) = true := by decide +kernel
def th_X11_makeAgain : List (Nat × Nat) := []
def sw_X11_makeAgain : List (Nat × (List (Int32 × Nat) × Nat)) := []
theorem sw_X11_makeAgain_ok : ∀ q ∈ sw_X11_makeAgain, swS cX11_makeAgain q := fun _ h => absurd h List.not_mem_nil
def na_X11_makeAgain : List (Nat × Nat) := [(892, 2), (916, 2), (478, 3)]
def ca_X11_makeAgain {R' : Type} (F : Nat) : List (Nat × cFn R') := [(892, n_X10_set (f_X10_set F)), (916, n_X11_shownAt (f_X11_shownAt F)), (478, n_X4_makes (f_X4_makes F))]
theorem ca_X11_makeAgain_ok {R' : Type} {q : cL} (hst : q.1.stackTraces = false) {D : Nat} (hD : 5 ≤ D) (F : Nat) : ∀ x ∈ (ca_X11_makeAgain (R' := R') F), 1 ≤ D ∧ ceS q RX11 (D - 1) x.1 x.2 := List.forall_mem_cons.mpr ⟨⟨by omega, n_X10_set_ok (k := 297) (lw_good_of (tb_ok 1073 (by decide +kernel)) rfl) (fun a0 a1 M r h => c_X10_set hst (by omega) F a0 a1 M r h)⟩, List.forall_mem_cons.mpr ⟨⟨by omega, n_X11_shownAt_ok (k := 305) (lw_good_of (tb_ok 1074 (by decide +kernel)) rfl) (fun a0 a1 M r h => c_X11_shownAt hst (by omega) F a0 a1 M r h)⟩, List.forall_mem_cons.mpr ⟨⟨by omega, n_X4_makes_ok (k := 159) (lw_good_of (tb_ok 554 (by decide +kernel)) rfl) (fun a0 a1 a2 M r h => c_X4_makes hst (by omega) F a0 a1 a2 M r h)⟩, fun _ h => absurd h List.not_mem_nil⟩⟩⟩
def kd_X11_makeAgain_13 (g : Nat → Nat → Int32 → cM → Option (cM)) : cKf (cM) := fun vs st M => (lR vs 0).bind fun x0 => (lR vs 1).bind fun x1 => (lI vs 2).bind fun x2 => match st with
  | [] => g x0 x1 x2 M
  | _ => none
theorem kf_X11_makeAgain_13 {X : cCtx} {o : cO} {r : cM} {g : Nat → Nat → Int32 → cM → Option (cM)} (hg : ∀ x0 x1 x2 M, g x0 x1 x2 M = some r → WX X 4 o 13 [some (.ref x0), some (.ref x1), some (.int x2), none] [] M) : ∀ vs st M, kd_X11_makeAgain_13 g vs st M = some r → WX X 4 o 13 vs st M := by
  intro vs st M h
  unfold kd_X11_makeAgain_13 at h
  obtain ⟨x0, h0, h⟩ := Option.bind_eq_some_iff.mp h
  obtain ⟨x1, h1, h⟩ := Option.bind_eq_some_iff.mp h
  obtain ⟨x2, h2, h⟩ := Option.bind_eq_some_iff.mp h
  split at h
  · exact WX_weak (hg _ _ _ _ h) rfl ⟨lR_of h0, lR_of h1, lI_of h2, trivial⟩
  · cases h
set_option maxRecDepth 20000 in
theorem e_X11_makeAgain_13 (F : Nat) (t13 : Nat → Nat → Int32 → cM → Option (cM)) (x0 : Nat) (x1 : Nat) (x2 : Int32) (M : cM) : b_X11_makeAgain_13 F t13 x0 x1 x2 M = run T_X11_makeAgain P_RX11 false 5 (naL na_X11_makeAgain) (caL (ca_X11_makeAgain F)) (lkN th_X11_makeAgain) (lkN sw_X11_makeAgain) krV kxN (spL [13]) (KL [(13, kd_X11_makeAgain_13 t13)]) 54 13 [some (.ref x0), some (.ref x1), some (.int x2), none] [] M := rfl
theorem ok_X11_makeAgain_13 {X : cCtx} {D : Nat} {r : cM} (G : FX X 4 (eV r) cX11_makeAgain RX11 5 D) {F : Nat} (hca : ∀ x ∈ (ca_X11_makeAgain (R' := cM) F), 1 ≤ D ∧ ceS X.1 RX11 (D - 1) x.1 x.2) (n : Nat) : ∀ x0 x1 x2 M, f_X11_makeAgain_13 F n x0 x1 x2 M = some r → WX X 4 (eV r) 13 [some (.ref x0), some (.ref x1), some (.int x2), none] [] M := by
  induction n with
  | zero => intro x0 x1 x2 M h; cases h
  | succ n ih =>
    intro x0 x1 x2 M h
    exact seg_ok G P_RX11_ok T_X11_makeAgain_ok hca (fun _ h => absurd h List.not_mem_nil) sw_X11_makeAgain_ok krV_ok (kxN_ok (f := eV)) (List.forall_mem_cons.mpr ⟨kf_X11_makeAgain_13 (ih), fun _ h => absurd h List.not_mem_nil⟩) ((e_X11_makeAgain_13 F (f_X11_makeAgain_13 F n) x0 x1 x2 M).symm.trans h)
set_option maxRecDepth 20000 in
theorem e_X11_makeAgain_0 (F : Nat) (t13 : Nat → Nat → Int32 → cM → Option (cM)) (x0 : Nat) (x1 : Nat) (M : cM) : b_X11_makeAgain_0 F t13 x0 x1 M = run T_X11_makeAgain P_RX11 false 5 (naL na_X11_makeAgain) (caL (ca_X11_makeAgain F)) (lkN th_X11_makeAgain) (lkN sw_X11_makeAgain) krV kxN (spL [13]) (KL [(13, kd_X11_makeAgain_13 t13)]) 54 0 [some (.ref x0), some (.ref x1), none, none] [] M := rfl
theorem ok_X11_makeAgain_0 {X : cCtx} {D : Nat} {r : cM} (G : FX X 4 (eV r) cX11_makeAgain RX11 5 D) {F : Nat} (hca : ∀ x ∈ (ca_X11_makeAgain (R' := cM) F), 1 ≤ D ∧ ceS X.1 RX11 (D - 1) x.1 x.2) : ∀ x0 x1 M, f_X11_makeAgain_0 F x0 x1 M = some r → WX X 4 (eV r) 0 [some (.ref x0), some (.ref x1), none, none] [] M := by
  intro x0 x1 M h
  exact seg_ok G P_RX11_ok T_X11_makeAgain_ok hca (fun _ h => absurd h List.not_mem_nil) sw_X11_makeAgain_ok krV_ok (kxN_ok (f := eV)) (List.forall_mem_cons.mpr ⟨kf_X11_makeAgain_13 (ok_X11_makeAgain_13 G hca F), fun _ h => absurd h List.not_mem_nil⟩) ((e_X11_makeAgain_0 F (f_X11_makeAgain_13 F F) x0 x1 M).symm.trans h)
theorem c_X11_makeAgain {q : cL} (hst : q.1.stackTraces = false) {D : Nat} (hD : 5 ≤ D) (F : Nat) (a0 : Nat) (a1 : Nat) (M : cM) (r : cM) (h : f_X11_makeAgain F a0 a1 M = some r) : CTx q yX11_makeAgain (.code yX11_makeAgain cX11_makeAgain 4 none) D [.ref a0, .ref a1] M (eV r) ∧ ∃ fs, M[a0]? = some (.inr (9, fs)) := by
  unfold f_X11_makeAgain at h
  split at h
  · next hi => exact ⟨CTx_of (own := RX11) (rk := 5) hst (by decide +kernel) rfl (rfl) (Nat.le_of_ble_eq_true rfl) (fun X hX G => by subst hX; exact ok_X11_makeAgain_0 G (ca_X11_makeAgain_ok hst hD F) a0 a1 M h), isC_of hi⟩
  · cases h
def n_X11_makeAgain {R' : Type} (f : Nat → Nat → cM → Option (cM)) : cFn R' := fun as M κ κx => match as with
  | [.ref a0, .ref a1] => (f a0 a1 M).bind fun p => κ none p
  | _ => none
theorem w_X11_makeAgain : ∀ w ∈ [Cond.instanceMethod yX11_makeAgain, .selects yX11_makeAgain.cls yX11_makeAgain yX11_makeAgain, .initialized yX11_makeAgain.cls, .code yX11_makeAgain cX11_makeAgain 4 none], w ∈ lw_good := List.forall_mem_cons.mpr ⟨lw_good_of (tb_ok 1071 (by decide +kernel)) rfl, List.forall_mem_cons.mpr ⟨lw_good_of (ts_ok 28 (by decide +kernel)) rfl, List.forall_mem_cons.mpr ⟨lw_good_of (tb_ok 1 (by decide +kernel)) rfl, List.forall_mem_cons.mpr ⟨lw_good_of (tb_ok 1072 (by decide +kernel)) rfl, fun _ h => absurd h List.not_mem_nil⟩⟩⟩⟩
theorem n_X11_makeAgain_ok {R' : Type} {q : cL} {own : String} {d k : Nat} {f : Nat → Nat → cM → Option (cM)} (hl : Cond.methodLink own k yX11_makeAgain ∈ lw_good) (hf : ∀ a0 a1 M r, f a0 a1 M = some r → CTx q yX11_makeAgain (.code yX11_makeAgain cX11_makeAgain 4 none) d [.ref a0, .ref a1] M (eV r) ∧ ∃ fs, M[a0]? = some (.inr (9, fs))) : ceS q own d (3 * k + 1) (n_X11_makeAgain (R' := R') f) := by
  intro as M κ κx r h
  unfold n_X11_makeAgain at h
  split at h
  · obtain ⟨p, h1, h2⟩ := Option.bind_eq_some_iff.mp h
    obtain ⟨hc, fs, ha⟩ := hf _ _ _ _ h1
    exact ⟨eV p, fun _ => h2, fun hne => absurd rfl hne, Or.inr (Or.inl ⟨yX11_makeAgain, cX11_makeAgain, 4, none, k, 1, _, _, 9, TX11, 10, fs, rfl, rfl, hc, ha, rfl, List.forall_mem_cons.mpr ⟨hl, w_X11_makeAgain⟩, ⟨rfl, by decide +kernel, by decide +kernel, by decide +kernel⟩, rfl, by decide⟩)⟩
  · cases h
