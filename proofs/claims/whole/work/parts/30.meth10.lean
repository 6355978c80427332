/-! METHODS, part 10 (laid by wip/whole/tools/gen.py) -/
-- PatchbayScript.undo(I)Z
def T_X11_undo : List cRow := [(0, .iload_n 1, 1, 0), (1, .ifCond .lt 17, 4, 18), (4, .iload_n 1, 5, 0), (5, .aload_n 0, 6, 0), (6, .getfield 81, 9, 0), (9, .if_icmp .ge 9, 12, 18), (12, .iload_n 1, 13, 0), (13, .bipush 30, 15, 0), (15, .if_icmp .lt 14, 18, 29), (18, .new 112, 21, 0), (29, .aload_n 0, 30, 0), (30, .getfield 40, 33, 0), (33, .iload_n 1, 34, 0), (34, .aload_n 0, 35, 0), (35, .getfield 40, 38, 0), (38, .iload_n 1, 39, 0), (39, .baload, 40, 0), (40, .ifCond .ne 7, 43, 47), (43, .iconst 1, 44, 0), (44, .goto 4, 47, 48), (47, .iconst 0, 48, 0), (48, .bastore, 49, 0), (49, .iconst 0, 50, 0), (50, .istore_n 2, 51, 0), (51, .iload_n 2, 52, 0), (52, .aload_n 0, 53, 0), (53, .getfield 76, 56, 0), (56, .if_icmp .ge 32, 59, 88), (59, .aload_n 0, 60, 0), (60, .getfield 28, 63, 0), (63, .iload_n 2, 64, 0), (64, .aaload, 65, 0), (65, .iload_n 1, 66, 0), (66, .invokevirtual 265, 69, 0), (69, .ifCond .eq 13, 72, 82), (72, .aload_n 0, 73, 0), (73, .aload_n 0, 74, 0), (74, .getfield 28, 77, 0), (77, .iload_n 2, 78, 0), (78, .aaload, 79, 0), (79, .invokevirtual 268, 82, 0), (82, .iinc 2 1, 85, 0), (85, .goto (-34), 88, 51), (88, .aload_n 0, 89, 0), (89, .getfield 40, 92, 0), (92, .iload_n 1, 93, 0), (93, .baload, 94, 0), (94, .ireturn, 95, 0)]
theorem T_X11_undo_ok : T_X11_undo.all (rowB cX11_undo) = true := by decide +kernel
def th_X11_undo : List (Nat × Nat) := [(18, 3)]
theorem th_X11_undo_ok {D : Nat} (hD : 6 ≤ D) : ∀ q ∈ th_X11_undo, 6 ≤ D ∧ thS RX11 cX11_undo q := List.forall_mem_cons.mpr ⟨⟨hD, ⟨112, 116, 259, "there is no such run", thk_RX11_3_116 (by decide), by decide +kernel, by decide +kernel, Or.inr ⟨by decide +kernel, by decide +kernel, by decide +kernel⟩⟩⟩, fun _ h => absurd h List.not_mem_nil⟩
def sw_X11_undo : List (Nat × (List (Int32 × Nat) × Nat)) := []
theorem sw_X11_undo_ok : ∀ q ∈ sw_X11_undo, swS cX11_undo q := fun _ h => absurd h List.not_mem_nil
def na_X11_undo : List (Nat × Nat) := [(796, 2), (805, 2)]
def ca_X11_undo {R' : Type} (F : Nat) : List (Nat × cFn R') := [(796, n_X5_hasStep (f_X5_hasStep F)), (805, n_X11_makeAgain (f_X11_makeAgain F))]
theorem ca_X11_undo_ok {R' : Type} {q : cL} (hst : q.1.stackTraces = false) {D : Nat} (hD : 6 ≤ D) (F : Nat) : ∀ x ∈ (ca_X11_undo (R' := R') F), 1 ≤ D ∧ ceS q RX11 (D - 1) x.1 x.2 := List.forall_mem_cons.mpr ⟨⟨by omega, n_X5_hasStep_ok (k := 265) (lw_good_of (tb_ok 1065 (by decide +kernel)) rfl) (fun a0 a1 M r h => c_X5_hasStep hst (by omega) F a0 a1 M r h)⟩, List.forall_mem_cons.mpr ⟨⟨by omega, n_X11_makeAgain_ok (k := 268) (lw_good_of (tb_ok 1069 (by decide +kernel)) rfl) (fun a0 a1 M r h => c_X11_makeAgain hst (by omega) F a0 a1 M r h)⟩, fun _ h => absurd h List.not_mem_nil⟩⟩
def kd_X11_undo_51 (g : Nat → Int32 → Int32 → cM → Option (Nat × Int32 × cM)) : cKf (Nat × Int32 × cM) := fun vs st M => (lR vs 0).bind fun x0 => (lI vs 1).bind fun x1 => (lI vs 2).bind fun x2 => match st with
  | [] => g x0 x1 x2 M
  | _ => none
theorem kf_X11_undo_51 {X : cCtx} {o : cO} {r : Nat × Int32 × cM} {g : Nat → Int32 → Int32 → cM → Option (Nat × Int32 × cM)} (hg : ∀ x0 x1 x2 M, g x0 x1 x2 M = some r → WX X 3 o 51 [some (.ref x0), some (.int x1), some (.int x2)] [] M) : ∀ vs st M, kd_X11_undo_51 g vs st M = some r → WX X 3 o 51 vs st M := by
  intro vs st M h
  unfold kd_X11_undo_51 at h
  obtain ⟨x0, h0, h⟩ := Option.bind_eq_some_iff.mp h
  obtain ⟨x1, h1, h⟩ := Option.bind_eq_some_iff.mp h
  obtain ⟨x2, h2, h⟩ := Option.bind_eq_some_iff.mp h
  split at h
  · exact WX_weak (hg _ _ _ _ h) rfl ⟨lR_of h0, lI_of h1, lI_of h2, trivial⟩
  · cases h
set_option maxRecDepth 20000 in
theorem e_X11_undo_51 (F : Nat) (t51 : Nat → Int32 → Int32 → cM → Option (Nat × Int32 × cM)) (x0 : Nat) (x1 : Int32) (x2 : Int32) (M : cM) : b_X11_undo_51 F t51 x0 x1 x2 M = run T_X11_undo P_RX11 false 1 (naL na_X11_undo) (caL (ca_X11_undo F)) (lkN th_X11_undo) (lkN sw_X11_undo) krTI kxTI (spL [51]) (KL [(51, kd_X11_undo_51 t51)]) 51 51 [some (.ref x0), some (.int x1), some (.int x2)] [] M := rfl
theorem ok_X11_undo_51 {X : cCtx} {D : Nat} {r : Nat × Int32 × cM} (G : FX X 3 (eTI r) cX11_undo RX11 1 D) (h6 : 6 ≤ D) {F : Nat} (hca : ∀ x ∈ (ca_X11_undo (R' := Nat × Int32 × cM) F), 1 ≤ D ∧ ceS X.1 RX11 (D - 1) x.1 x.2) (n : Nat) : ∀ x0 x1 x2 M, f_X11_undo_51 F n x0 x1 x2 M = some r → WX X 3 (eTI r) 51 [some (.ref x0), some (.int x1), some (.int x2)] [] M := by
  induction n with
  | zero => intro x0 x1 x2 M h; cases h
  | succ n ih =>
    intro x0 x1 x2 M h
    exact seg_ok G P_RX11_ok T_X11_undo_ok hca (th_X11_undo_ok h6) sw_X11_undo_ok krTI_ok kxTI_ok (List.forall_mem_cons.mpr ⟨kf_X11_undo_51 (ih), fun _ h => absurd h List.not_mem_nil⟩) ((e_X11_undo_51 F (f_X11_undo_51 F n) x0 x1 x2 M).symm.trans h)
set_option maxRecDepth 20000 in
theorem e_X11_undo_0 (F : Nat) (t51 : Nat → Int32 → Int32 → cM → Option (Nat × Int32 × cM)) (x0 : Nat) (x1 : Int32) (M : cM) : b_X11_undo_0 F t51 x0 x1 M = run T_X11_undo P_RX11 false 1 (naL na_X11_undo) (caL (ca_X11_undo F)) (lkN th_X11_undo) (lkN sw_X11_undo) krTI kxTI (spL [51]) (KL [(51, kd_X11_undo_51 t51)]) 51 0 [some (.ref x0), some (.int x1), none] [] M := rfl
theorem ok_X11_undo_0 {X : cCtx} {D : Nat} {r : Nat × Int32 × cM} (G : FX X 3 (eTI r) cX11_undo RX11 1 D) (h6 : 6 ≤ D) {F : Nat} (hca : ∀ x ∈ (ca_X11_undo (R' := Nat × Int32 × cM) F), 1 ≤ D ∧ ceS X.1 RX11 (D - 1) x.1 x.2) : ∀ x0 x1 M, f_X11_undo_0 F x0 x1 M = some r → WX X 3 (eTI r) 0 [some (.ref x0), some (.int x1), none] [] M := by
  intro x0 x1 M h
  exact seg_ok G P_RX11_ok T_X11_undo_ok hca (th_X11_undo_ok h6) sw_X11_undo_ok krTI_ok kxTI_ok (List.forall_mem_cons.mpr ⟨kf_X11_undo_51 (ok_X11_undo_51 G h6 hca F), fun _ h => absurd h List.not_mem_nil⟩) ((e_X11_undo_0 F (f_X11_undo_51 F F) x0 x1 M).symm.trans h)
theorem c_X11_undo {q : cL} (hst : q.1.stackTraces = false) {D : Nat} (hD : 6 ≤ D) (F : Nat) (a0 : Nat) (a1 : Int32) (M : cM) (r : Nat × Int32 × cM) (h : f_X11_undo F a0 a1 M = some r) : CTx q yX11_undo (.code yX11_undo cX11_undo 3 (some .boolean)) D [.ref a0, .int a1] M (eTI r) ∧ ∃ fs, M[a0]? = some (.inr (9, fs)) := by
  unfold f_X11_undo at h
  split at h
  · next hi => exact ⟨CTx_of (own := RX11) (rk := 1) hst (by decide +kernel) rfl (rfl) (Nat.le_of_ble_eq_true rfl) (fun X hX G => by subst hX; exact ok_X11_undo_0 G (by omega) (ca_X11_undo_ok hst hD F) a0 a1 M h), isC_of hi⟩
  · cases h
-- PatchbayScript.stand(IZ)Z
def T_X11_stand : List cRow := [(0, .aload_n 0, 1, 0), (1, .iload_n 1, 2, 0), (2, .invokevirtual 127, 5, 0), (5, .iload_n 2, 6, 0), (6, .ifCond .eq 29, 9, 35), (9, .aload_n 0, 10, 0), (10, .getfield 21, 13, 0), (13, .iload_n 1, 14, 0), (14, .aaload, 15, 0), (15, .getfield 155, 18, 0), (18, .getfield 215, 21, 0), (21, .ifCond .ne 14, 24, 35), (24, .new 68, 27, 0), (35, .aload_n 0, 36, 0), (36, .getfield 21, 39, 0), (39, .iload_n 1, 40, 0), (40, .aaload, 41, 0), (41, .getfield 97, 44, 0), (44, .istore_n 3, 45, 0), (45, .aload_n 0, 46, 0), (46, .getfield 21, 49, 0), (49, .iload_n 1, 50, 0), (50, .aaload, 51, 0), (51, .iload_n 2, 52, 0), (52, .putfield 97, 55, 0), (55, .iload_n 3, 56, 0), (56, .ireturn, 57, 0)]
theorem T_X11_stand_ok : T_X11_stand.all (rowB cX11_stand) = true := by decide +kernel
def th_X11_stand : List (Nat × Nat) := [(24, 2)]
theorem th_X11_stand_ok {D : Nat} (hD : 6 ≤ D) : ∀ q ∈ th_X11_stand, 6 ≤ D ∧ thS RX11 cX11_stand q := List.forall_mem_cons.mpr ⟨⟨hD, ⟨68, 72, 261, "the task has learnt nothing", thk_RX11_2_72 (by decide), by decide +kernel, by decide +kernel, Or.inr ⟨by decide +kernel, by decide +kernel, by decide +kernel⟩⟩⟩, fun _ h => absurd h List.not_mem_nil⟩
def sw_X11_stand : List (Nat × (List (Int32 × Nat) × Nat)) := []
theorem sw_X11_stand_ok : ∀ q ∈ sw_X11_stand, swS cX11_stand q := fun _ h => absurd h List.not_mem_nil
def na_X11_stand : List (Nat × Nat) := [(382, 2)]
def ca_X11_stand {R' : Type} (F : Nat) : List (Nat × cFn R') := [(382, n_X11_needTask (f_X11_needTask F))]
theorem ca_X11_stand_ok {R' : Type} {q : cL} (hst : q.1.stackTraces = false) {D : Nat} (hD : 7 ≤ D) (F : Nat) : ∀ x ∈ (ca_X11_stand (R' := R') F), 1 ≤ D ∧ ceS q RX11 (D - 1) x.1 x.2 := List.forall_mem_cons.mpr ⟨⟨by omega, n_X11_needTask_ok (k := 127) (lw_good_of (tb_ok 685 (by decide +kernel)) rfl) (fun a0 a1 M r h => c_X11_needTask hst (by omega) F a0 a1 M r h)⟩, fun _ h => absurd h List.not_mem_nil⟩
def kd_X11_stand_35 (g : Nat → Int32 → Int32 → cM → Option (Nat × Int32 × cM)) : cKf (Nat × Int32 × cM) := fun vs st M => (lR vs 0).bind fun x0 => (lI vs 1).bind fun x1 => (lI vs 2).bind fun x2 => match st with
  | [] => g x0 x1 x2 M
  | _ => none
theorem kf_X11_stand_35 {X : cCtx} {o : cO} {r : Nat × Int32 × cM} {g : Nat → Int32 → Int32 → cM → Option (Nat × Int32 × cM)} (hg : ∀ x0 x1 x2 M, g x0 x1 x2 M = some r → WX X 4 o 35 [some (.ref x0), some (.int x1), some (.int x2), none] [] M) : ∀ vs st M, kd_X11_stand_35 g vs st M = some r → WX X 4 o 35 vs st M := by
  intro vs st M h
  unfold kd_X11_stand_35 at h
  obtain ⟨x0, h0, h⟩ := Option.bind_eq_some_iff.mp h
  obtain ⟨x1, h1, h⟩ := Option.bind_eq_some_iff.mp h
  obtain ⟨x2, h2, h⟩ := Option.bind_eq_some_iff.mp h
  split at h
  · exact WX_weak (hg _ _ _ _ h) rfl ⟨lR_of h0, lI_of h1, lI_of h2, trivial⟩
  · cases h
set_option maxRecDepth 20000 in
theorem e_X11_stand_35 (F : Nat) (x0 : Nat) (x1 : Int32) (x2 : Int32) (M : cM) : b_X11_stand_35 F x0 x1 x2 M = run T_X11_stand P_RX11 false 1 (naL na_X11_stand) (caL (ca_X11_stand F)) (lkN th_X11_stand) (lkN sw_X11_stand) krTI kxTI (spL []) (KL []) 30 35 [some (.ref x0), some (.int x1), some (.int x2), none] [] M := rfl
theorem ok_X11_stand_35 {X : cCtx} {D : Nat} {r : Nat × Int32 × cM} (G : FX X 4 (eTI r) cX11_stand RX11 1 D) (h6 : 6 ≤ D) {F : Nat} (hca : ∀ x ∈ (ca_X11_stand (R' := Nat × Int32 × cM) F), 1 ≤ D ∧ ceS X.1 RX11 (D - 1) x.1 x.2) : ∀ x0 x1 x2 M, f_X11_stand_35 F x0 x1 x2 M = some r → WX X 4 (eTI r) 35 [some (.ref x0), some (.int x1), some (.int x2), none] [] M := by
  intro x0 x1 x2 M h
  exact seg_ok G P_RX11_ok T_X11_stand_ok hca (th_X11_stand_ok h6) sw_X11_stand_ok krTI_ok kxTI_ok (fun _ h => absurd h List.not_mem_nil) ((e_X11_stand_35 F x0 x1 x2 M).symm.trans h)
set_option maxRecDepth 20000 in
theorem e_X11_stand_0 (F : Nat) (t35 : Nat → Int32 → Int32 → cM → Option (Nat × Int32 × cM)) (x0 : Nat) (x1 : Int32) (x2 : Int32) (M : cM) : b_X11_stand_0 F t35 x0 x1 x2 M = run T_X11_stand P_RX11 false 1 (naL na_X11_stand) (caL (ca_X11_stand F)) (lkN th_X11_stand) (lkN sw_X11_stand) krTI kxTI (spL [35]) (KL [(35, kd_X11_stand_35 t35)]) 30 0 [some (.ref x0), some (.int x1), some (.int x2), none] [] M := rfl
theorem ok_X11_stand_0 {X : cCtx} {D : Nat} {r : Nat × Int32 × cM} (G : FX X 4 (eTI r) cX11_stand RX11 1 D) (h6 : 6 ≤ D) {F : Nat} (hca : ∀ x ∈ (ca_X11_stand (R' := Nat × Int32 × cM) F), 1 ≤ D ∧ ceS X.1 RX11 (D - 1) x.1 x.2) : ∀ x0 x1 x2 M, f_X11_stand_0 F x0 x1 x2 M = some r → WX X 4 (eTI r) 0 [some (.ref x0), some (.int x1), some (.int x2), none] [] M := by
  intro x0 x1 x2 M h
  exact seg_ok G P_RX11_ok T_X11_stand_ok hca (th_X11_stand_ok h6) sw_X11_stand_ok krTI_ok kxTI_ok (List.forall_mem_cons.mpr ⟨kf_X11_stand_35 (ok_X11_stand_35 G h6 hca), fun _ h => absurd h List.not_mem_nil⟩) ((e_X11_stand_0 F (f_X11_stand_35 F) x0 x1 x2 M).symm.trans h)
theorem c_X11_stand {q : cL} (hst : q.1.stackTraces = false) {D : Nat} (hD : 7 ≤ D) (F : Nat) (a0 : Nat) (a1 : Int32) (a2 : Int32) (M : cM) (r : Nat × Int32 × cM) (h : f_X11_stand F a0 a1 a2 M = some r) : CTx q yX11_stand (.code yX11_stand cX11_stand 4 (some .boolean)) D [.ref a0, .int a1, .int a2] M (eTI r) ∧ ∃ fs, M[a0]? = some (.inr (9, fs)) := by
  unfold f_X11_stand at h
  split at h
  · next hi => exact ⟨CTx_of (own := RX11) (rk := 1) hst (by decide +kernel) rfl (rfl) (Nat.le_of_ble_eq_true rfl) (fun X hX G => by subst hX; exact ok_X11_stand_0 G (by omega) (ca_X11_stand_ok hst hD F) a0 a1 a2 M h), isC_of hi⟩
  · cases h
-- PatchbayScript.asked()I
def T_X11_asked : List cRow := [(0, .aload_n 0, 1, 0), (1, .getfield 272, 4, 0), (4, .istore_n 1, 5, 0), (5, .aload_n 0, 6, 0), (6, .iconst 0, 7, 0), (7, .putfield 272, 10, 0), (10, .iload_n 1, 11, 0), (11, .ireturn, 12, 0)]
theorem T_X11_asked_ok : T_X11_asked.all (rowB cX11_asked) = true := by decide +kernel
def th_X11_asked : List (Nat × Nat) := []
def sw_X11_asked : List (Nat × (List (Int32 × Nat) × Nat)) := []
theorem sw_X11_asked_ok : ∀ q ∈ sw_X11_asked, swS cX11_asked q := fun _ h => absurd h List.not_mem_nil
def na_X11_asked : List (Nat × Nat) := []
def ca_X11_asked {R' : Type} (F : Nat) : List (Nat × cFn R') := []
theorem ca_X11_asked_ok {R' : Type} {q : cL} (hst : q.1.stackTraces = false) {D : Nat} (hD : 0 ≤ D) (F : Nat) : ∀ x ∈ (ca_X11_asked (R' := R') F), 1 ≤ D ∧ ceS q RX11 (D - 1) x.1 x.2 := fun _ h => absurd h List.not_mem_nil
set_option maxRecDepth 20000 in
theorem e_X11_asked_0 (F : Nat) (x0 : Nat) (M : cM) : b_X11_asked_0 F x0 M = run T_X11_asked P_RX11 false 0 (naL na_X11_asked) (caL (ca_X11_asked F)) (lkN th_X11_asked) (lkN sw_X11_asked) krI kxN (spL []) (KL []) 11 0 [some (.ref x0), none] [] M := rfl
theorem ok_X11_asked_0 {X : cCtx} {D : Nat} {r : Int32 × cM} (G : FX X 2 (eI r) cX11_asked RX11 0 D) {F : Nat} (hca : ∀ x ∈ (ca_X11_asked (R' := Int32 × cM) F), 1 ≤ D ∧ ceS X.1 RX11 (D - 1) x.1 x.2) : ∀ x0 M, f_X11_asked_0 F x0 M = some r → WX X 2 (eI r) 0 [some (.ref x0), none] [] M := by
  intro x0 M h
  exact seg_ok G P_RX11_ok T_X11_asked_ok hca (fun _ h => absurd h List.not_mem_nil) sw_X11_asked_ok krI_ok (kxN_ok (f := eI)) (fun _ h => absurd h List.not_mem_nil) ((e_X11_asked_0 F x0 M).symm.trans h)
theorem c_X11_asked {q : cL} (hst : q.1.stackTraces = false) {D : Nat} (hD : 0 ≤ D) (F : Nat) (a0 : Nat) (M : cM) (r : Int32 × cM) (h : f_X11_asked F a0 M = some r) : CTx q yX11_asked (.code yX11_asked cX11_asked 2 (some .int)) D [.ref a0] M (eI r) ∧ ∃ fs, M[a0]? = some (.inr (9, fs)) := by
  unfold f_X11_asked at h
  split at h
  · next hi => exact ⟨CTx_of (own := RX11) (rk := 0) hst (by decide +kernel) rfl (rfl) (Nat.le_of_ble_eq_true rfl) (fun X hX G => by subst hX; exact ok_X11_asked_0 G (ca_X11_asked_ok hst hD F) a0 M h), isC_of hi⟩
  · cases h
-- PatchbayScriptModel.thrown()I
def T_X12_thrown : List cRow := [(0, .aload_n 0, 1, 0), (1, .getfield 196, 4, 0), (4, .ireturn, 5, 0)]
theorem T_X12_thrown_ok : T_X12_thrown.all (rowB cX12_thrown) = true := by decide +kernel
def th_X12_thrown : List (Nat × Nat) := []
def sw_X12_thrown : List (Nat × (List (Int32 × Nat) × Nat)) := []
theorem sw_X12_thrown_ok : ∀ q ∈ sw_X12_thrown, swS cX12_thrown q := fun _ h => absurd h List.not_mem_nil
def na_X12_thrown : List (Nat × Nat) := []
def ca_X12_thrown {R' : Type} (F : Nat) : List (Nat × cFn R') := []
theorem ca_X12_thrown_ok {R' : Type} {q : cL} (hst : q.1.stackTraces = false) {D : Nat} (hD : 0 ≤ D) (F : Nat) : ∀ x ∈ (ca_X12_thrown (R' := R') F), 1 ≤ D ∧ ceS q RX12 (D - 1) x.1 x.2 := fun _ h => absurd h List.not_mem_nil
set_option maxRecDepth 20000 in
theorem e_X12_thrown_0 (F : Nat) (x0 : Nat) (M : cM) : b_X12_thrown_0 F x0 M = run T_X12_thrown P_RX12 false 0 (naL na_X12_thrown) (caL (ca_X12_thrown F)) (lkN th_X12_thrown) (lkN sw_X12_thrown) krI kxN (spL []) (KL []) 6 0 [some (.ref x0)] [] M := rfl
theorem ok_X12_thrown_0 {X : cCtx} {D : Nat} {r : Int32 × cM} (G : FX X 1 (eI r) cX12_thrown RX12 0 D) {F : Nat} (hca : ∀ x ∈ (ca_X12_thrown (R' := Int32 × cM) F), 1 ≤ D ∧ ceS X.1 RX12 (D - 1) x.1 x.2) : ∀ x0 M, f_X12_thrown_0 F x0 M = some r → WX X 1 (eI r) 0 [some (.ref x0)] [] M := by
  intro x0 M h
  exact seg_ok G P_RX12_ok T_X12_thrown_ok hca (fun _ h => absurd h List.not_mem_nil) sw_X12_thrown_ok krI_ok (kxN_ok (f := eI)) (fun _ h => absurd h List.not_mem_nil) ((e_X12_thrown_0 F x0 M).symm.trans h)
theorem c_X12_thrown {q : cL} (hst : q.1.stackTraces = false) {D : Nat} (hD : 0 ≤ D) (F : Nat) (a0 : Nat) (M : cM) (r : Int32 × cM) (h : f_X12_thrown F a0 M = some r) : CTx q yX12_thrown (.code yX12_thrown cX12_thrown 1 (some .int)) D [.ref a0] M (eI r) ∧ ∃ fs, M[a0]? = some (.inr (10, fs)) := by
  unfold f_X12_thrown at h
  split at h
  · next hi => exact ⟨CTx_of (own := RX12) (rk := 0) hst (by decide +kernel) rfl (rfl) (Nat.le_of_ble_eq_true rfl) (fun X hX G => by subst hX; exact ok_X12_thrown_0 G (ca_X12_thrown_ok hst hD F) a0 M h), isC_of hi⟩
  · cases h
-- PatchbayScriptModel.fails(I)I
def T_X12_fails : List cRow := [(0, .aload_n 0, 1, 0), (1, .iload_n 1, 2, 0), (2, .putfield 196, 5, 0), (5, .iconst 0, 6, 0), (6, .ireturn, 7, 0)]
theorem T_X12_fails_ok : T_X12_fails.all (rowB cX12_fails) = true := by decide +kernel
def th_X12_fails : List (Nat × Nat) := []
def sw_X12_fails : List (Nat × (List (Int32 × Nat) × Nat)) := []
theorem sw_X12_fails_ok : ∀ q ∈ sw_X12_fails, swS cX12_fails q := fun _ h => absurd h List.not_mem_nil
def na_X12_fails : List (Nat × Nat) := []
def ca_X12_fails {R' : Type} (F : Nat) : List (Nat × cFn R') := []
theorem ca_X12_fails_ok {R' : Type} {q : cL} (hst : q.1.stackTraces = false) {D : Nat} (hD : 0 ≤ D) (F : Nat) : ∀ x ∈ (ca_X12_fails (R' := R') F), 1 ≤ D ∧ ceS q RX12 (D - 1) x.1 x.2 := fun _ h => absurd h List.not_mem_nil
set_option maxRecDepth 20000 in
theorem e_X12_fails_0 (F : Nat) (x0 : Nat) (x1 : Int32) (M : cM) : b_X12_fails_0 F x0 x1 M = run T_X12_fails P_RX12 false 0 (naL na_X12_fails) (caL (ca_X12_fails F)) (lkN th_X12_fails) (lkN sw_X12_fails) krI kxN (spL []) (KL []) 8 0 [some (.ref x0), some (.int x1)] [] M := rfl
theorem ok_X12_fails_0 {X : cCtx} {D : Nat} {r : Int32 × cM} (G : FX X 2 (eI r) cX12_fails RX12 0 D) {F : Nat} (hca : ∀ x ∈ (ca_X12_fails (R' := Int32 × cM) F), 1 ≤ D ∧ ceS X.1 RX12 (D - 1) x.1 x.2) : ∀ x0 x1 M, f_X12_fails_0 F x0 x1 M = some r → WX X 2 (eI r) 0 [some (.ref x0), some (.int x1)] [] M := by
  intro x0 x1 M h
  exact seg_ok G P_RX12_ok T_X12_fails_ok hca (fun _ h => absurd h List.not_mem_nil) sw_X12_fails_ok krI_ok (kxN_ok (f := eI)) (fun _ h => absurd h List.not_mem_nil) ((e_X12_fails_0 F x0 x1 M).symm.trans h)
theorem c_X12_fails {q : cL} (hst : q.1.stackTraces = false) {D : Nat} (hD : 0 ≤ D) (F : Nat) (a0 : Nat) (a1 : Int32) (M : cM) (r : Int32 × cM) (h : f_X12_fails F a0 a1 M = some r) : CTx q yX12_fails (.code yX12_fails cX12_fails 2 (some .int)) D [.ref a0, .int a1] M (eI r) ∧ ∃ fs, M[a0]? = some (.inr (10, fs)) := by
  unfold f_X12_fails at h
  split at h
  · next hi => exact ⟨CTx_of (own := RX12) (rk := 0) hst (by decide +kernel) rfl (rfl) (Nat.le_of_ble_eq_true rfl) (fun X hX G => by subst hX; exact ok_X12_fails_0 G (ca_X12_fails_ok hst hD F) a0 a1 M h), isC_of hi⟩
  · cases h
def n_X12_fails {R' : Type} (f : Nat → Int32 → cM → Option (Int32 × cM)) : cFn R' := fun as M κ κx => match as with
  | [.ref a0, .int a1] => (f a0 a1 M).bind fun p => κ (some (.int p.1)) p.2
  | _ => none
theorem w_X12_fails : ∀ w ∈ [Cond.instanceMethod yX12_fails, .selects yX12_fails.cls yX12_fails yX12_fails, .initialized yX12_fails.cls, .code yX12_fails cX12_fails 2 (some .int)], w ∈ lw_good := List.forall_mem_cons.mpr ⟨lw_good_of (tb_ok 1448 (by decide +kernel)) rfl, List.forall_mem_cons.mpr ⟨lw_good_of (ts_ok 45 (by decide +kernel)) rfl, List.forall_mem_cons.mpr ⟨lw_good_of (tb_ok 11 (by decide +kernel)) rfl, List.forall_mem_cons.mpr ⟨lw_good_of (tb_ok 1449 (by decide +kernel)) rfl, fun _ h => absurd h List.not_mem_nil⟩⟩⟩⟩
theorem n_X12_fails_ok {R' : Type} {q : cL} {own : String} {d k : Nat} {f : Nat → Int32 → cM → Option (Int32 × cM)} (hl : Cond.methodLink own k yX12_fails ∈ lw_good) (hf : ∀ a0 a1 M r, f a0 a1 M = some r → CTx q yX12_fails (.code yX12_fails cX12_fails 2 (some .int)) d [.ref a0, .int a1] M (eI r) ∧ ∃ fs, M[a0]? = some (.inr (10, fs))) : ceS q own d (3 * k + 1) (n_X12_fails (R' := R') f) := by
  intro as M κ κx r h
  unfold n_X12_fails at h
  split at h
  · obtain ⟨p, h1, h2⟩ := Option.bind_eq_some_iff.mp h
    obtain ⟨hc, fs, ha⟩ := hf _ _ _ _ h1
    exact ⟨eI p, fun _ => h2, fun hne => absurd rfl hne, Or.inr (Or.inl ⟨yX12_fails, cX12_fails, 2, (some .int), k, 1, _, _, 10, TX12, 76, fs, rfl, rfl, hc, ha, rfl, List.forall_mem_cons.mpr ⟨hl, w_X12_fails⟩, ⟨rfl, by decide +kernel, by decide +kernel, by decide +kernel⟩, rfl, by decide⟩)⟩
  · cases h
-- PatchbayScriptModel.isIn(III)Z
def T_X12_isIn : List cRow := [(0, .iload_n 0, 1, 0), (1, .iload_n 1, 2, 0), (2, .if_icmp .lt 12, 5, 14), (5, .iload_n 0, 6, 0), (6, .iload_n 2, 7, 0), (7, .if_icmp .gt 7, 10, 14), (10, .iconst 1, 11, 0), (11, .goto 4, 14, 15), (14, .iconst 0, 15, 0), (15, .ireturn, 16, 0)]
theorem T_X12_isIn_ok : T_X12_isIn.all (rowB cX12_isIn) = true := by decide +kernel
def th_X12_isIn : List (Nat × Nat) := []
def sw_X12_isIn : List (Nat × (List (Int32 × Nat) × Nat)) := []
theorem sw_X12_isIn_ok : ∀ q ∈ sw_X12_isIn, swS cX12_isIn q := fun _ h => absurd h List.not_mem_nil
def na_X12_isIn : List (Nat × Nat) := []
def ca_X12_isIn {R' : Type} (F : Nat) : List (Nat × cFn R') := []
theorem ca_X12_isIn_ok {R' : Type} {q : cL} (hst : q.1.stackTraces = false) {D : Nat} (hD : 0 ≤ D) (F : Nat) : ∀ x ∈ (ca_X12_isIn (R' := R') F), 1 ≤ D ∧ ceS q RX12 (D - 1) x.1 x.2 := fun _ h => absurd h List.not_mem_nil
set_option maxRecDepth 20000 in
theorem e_X12_isIn_0 (F : Nat) (x0 : Int32) (x1 : Int32) (x2 : Int32) (M : cM) : b_X12_isIn_0 F x0 x1 x2 M = run T_X12_isIn P_RX12 false 1 (naL na_X12_isIn) (caL (ca_X12_isIn F)) (lkN th_X12_isIn) (lkN sw_X12_isIn) krI kxN (spL []) (KL []) 13 0 [some (.int x0), some (.int x1), some (.int x2)] [] M := rfl
theorem ok_X12_isIn_0 {X : cCtx} {D : Nat} {r : Int32 × cM} (G : FX X 3 (eI r) cX12_isIn RX12 1 D) {F : Nat} (hca : ∀ x ∈ (ca_X12_isIn (R' := Int32 × cM) F), 1 ≤ D ∧ ceS X.1 RX12 (D - 1) x.1 x.2) : ∀ x0 x1 x2 M, f_X12_isIn_0 F x0 x1 x2 M = some r → WX X 3 (eI r) 0 [some (.int x0), some (.int x1), some (.int x2)] [] M := by
  intro x0 x1 x2 M h
  exact seg_ok G P_RX12_ok T_X12_isIn_ok hca (fun _ h => absurd h List.not_mem_nil) sw_X12_isIn_ok krI_ok (kxN_ok (f := eI)) (fun _ h => absurd h List.not_mem_nil) ((e_X12_isIn_0 F x0 x1 x2 M).symm.trans h)
theorem c_X12_isIn {q : cL} (hst : q.1.stackTraces = false) {D : Nat} (hD : 0 ≤ D) (F : Nat) (a0 : Int32) (a1 : Int32) (a2 : Int32) (M : cM) (r : Int32 × cM) (h : f_X12_isIn F a0 a1 a2 M = some r) : CTx q yX12_isIn (.code yX12_isIn cX12_isIn 3 (some .boolean)) D [.int a0, .int a1, .int a2] M (eI r) := by
  exact CTx_of (own := RX12) (rk := 1) hst (by decide +kernel) rfl (rfl) (Nat.le_of_ble_eq_true rfl) (fun X hX G => by subst hX; exact ok_X12_isIn_0 G (ca_X12_isIn_ok hst hD F) a0 a1 a2 M h)
def n_X12_isIn {R' : Type} (f : Int32 → Int32 → Int32 → cM → Option (Int32 × cM)) : cFn R' := fun as M κ κx => match as with
  | [.int a0, .int a1, .int a2] => (f a0 a1 a2 M).bind fun p => κ (some (.int p.1)) p.2
  | _ => none
theorem w_X12_isIn : ∀ w ∈ [Cond.static yX12_isIn, .initialized yX12_isIn.cls, .code yX12_isIn cX12_isIn 3 (some .boolean)], w ∈ lw_good := List.forall_mem_cons.mpr ⟨lw_good_of (tb_ok 1342 (by decide +kernel)) rfl, List.forall_mem_cons.mpr ⟨lw_good_of (tb_ok 11 (by decide +kernel)) rfl, List.forall_mem_cons.mpr ⟨lw_good_of (tb_ok 1343 (by decide +kernel)) rfl, fun _ h => absurd h List.not_mem_nil⟩⟩⟩
theorem n_X12_isIn_ok {R' : Type} {q : cL} {own : String} {d k : Nat} {f : Int32 → Int32 → Int32 → cM → Option (Int32 × cM)} (hl : Cond.methodLink own k yX12_isIn ∈ lw_good) (hf : ∀ a0 a1 a2 M r, f a0 a1 a2 M = some r → CTx q yX12_isIn (.code yX12_isIn cX12_isIn 3 (some .boolean)) d [.int a0, .int a1, .int a2] M (eI r)) : ceS q own d (3 * k) (n_X12_isIn (R' := R') f) := by
  intro as M κ κx r h
  unfold n_X12_isIn at h
  split at h
  · obtain ⟨p, h1, h2⟩ := Option.bind_eq_some_iff.mp h
    exact ⟨eI p, fun _ => h2, fun hne => absurd rfl hne, Or.inl ⟨yX12_isIn, cX12_isIn, 3, (some .boolean), k, 3, rfl, hf _ _ _ _ _ h1, List.forall_mem_cons.mpr ⟨hl, w_X12_isIn⟩, ⟨by decide +kernel, by decide +kernel, by decide +kernel⟩, rfl, by decide⟩⟩
  · cases h
-- PatchbayScriptModel.isTask(I)Z
def T_X12_isTask : List cRow := [(0, .iload_n 0, 1, 0), (1, .iconst 0, 2, 0), (2, .iconst 2, 3, 0), (3, .invokestatic 200, 6, 0), (6, .ireturn, 7, 0)]
theorem T_X12_isTask_ok : T_X12_isTask.all (rowB cX12_isTask) = true := by decide +kernel
def th_X12_isTask : List (Nat × Nat) := []
def sw_X12_isTask : List (Nat × (List (Int32 × Nat) × Nat)) := []
theorem sw_X12_isTask_ok : ∀ q ∈ sw_X12_isTask, swS cX12_isTask q := fun _ h => absurd h List.not_mem_nil
def na_X12_isTask : List (Nat × Nat) := [(600, 3)]
def ca_X12_isTask {R' : Type} (F : Nat) : List (Nat × cFn R') := [(600, n_X12_isIn (f_X12_isIn F))]
theorem ca_X12_isTask_ok {R' : Type} {q : cL} (hst : q.1.stackTraces = false) {D : Nat} (hD : 1 ≤ D) (F : Nat) : ∀ x ∈ (ca_X12_isTask (R' := R') F), 1 ≤ D ∧ ceS q RX12 (D - 1) x.1 x.2 := List.forall_mem_cons.mpr ⟨⟨by omega, n_X12_isIn_ok (k := 200) (lw_good_of (tb_ok 1341 (by decide +kernel)) rfl) (fun a0 a1 a2 M r h => c_X12_isIn hst (by omega) F a0 a1 a2 M r h)⟩, fun _ h => absurd h List.not_mem_nil⟩
set_option maxRecDepth 20000 in
theorem e_X12_isTask_0 (F : Nat) (x0 : Int32) (M : cM) : b_X12_isTask_0 F x0 M = run T_X12_isTask P_RX12 false 1 (naL na_X12_isTask) (caL (ca_X12_isTask F)) (lkN th_X12_isTask) (lkN sw_X12_isTask) krI kxN (spL []) (KL []) 8 0 [some (.int x0)] [] M := rfl
theorem ok_X12_isTask_0 {X : cCtx} {D : Nat} {r : Int32 × cM} (G : FX X 1 (eI r) cX12_isTask RX12 1 D) {F : Nat} (hca : ∀ x ∈ (ca_X12_isTask (R' := Int32 × cM) F), 1 ≤ D ∧ ceS X.1 RX12 (D - 1) x.1 x.2) : ∀ x0 M, f_X12_isTask_0 F x0 M = some r → WX X 1 (eI r) 0 [some (.int x0)] [] M := by
  intro x0 M h
  exact seg_ok G P_RX12_ok T_X12_isTask_ok hca (fun _ h => absurd h List.not_mem_nil) sw_X12_isTask_ok krI_ok (kxN_ok (f := eI)) (fun _ h => absurd h List.not_mem_nil) ((e_X12_isTask_0 F x0 M).symm.trans h)
theorem c_X12_isTask {q : cL} (hst : q.1.stackTraces = false) {D : Nat} (hD : 1 ≤ D) (F : Nat) (a0 : Int32) (M : cM) (r : Int32 × cM) (h : f_X12_isTask F a0 M = some r) : CTx q yX12_isTask (.code yX12_isTask cX12_isTask 1 (some .boolean)) D [.int a0] M (eI r) := by
  exact CTx_of (own := RX12) (rk := 1) hst (by decide +kernel) rfl (rfl) (Nat.le_of_ble_eq_true rfl) (fun X hX G => by subst hX; exact ok_X12_isTask_0 G (ca_X12_isTask_ok hst hD F) a0 M h)
def n_X12_isTask {R' : Type} (f : Int32 → cM → Option (Int32 × cM)) : cFn R' := fun as M κ κx => match as with
  | [.int a0] => (f a0 M).bind fun p => κ (some (.int p.1)) p.2
  | _ => none
theorem w_X12_isTask : ∀ w ∈ [Cond.static yX12_isTask, .initialized yX12_isTask.cls, .code yX12_isTask cX12_isTask 1 (some .boolean)], w ∈ lw_good := List.forall_mem_cons.mpr ⟨lw_good_of (tb_ok 1436 (by decide +kernel)) rfl, List.forall_mem_cons.mpr ⟨lw_good_of (tb_ok 11 (by decide +kernel)) rfl, List.forall_mem_cons.mpr ⟨lw_good_of (tb_ok 1437 (by decide +kernel)) rfl, fun _ h => absurd h List.not_mem_nil⟩⟩⟩
theorem n_X12_isTask_ok {R' : Type} {q : cL} {own : String} {d k : Nat} {f : Int32 → cM → Option (Int32 × cM)} (hl : Cond.methodLink own k yX12_isTask ∈ lw_good) (hf : ∀ a0 M r, f a0 M = some r → CTx q yX12_isTask (.code yX12_isTask cX12_isTask 1 (some .boolean)) d [.int a0] M (eI r)) : ceS q own d (3 * k) (n_X12_isTask (R' := R') f) := by
  intro as M κ κx r h
  unfold n_X12_isTask at h
  split at h
  · obtain ⟨p, h1, h2⟩ := Option.bind_eq_some_iff.mp h
    exact ⟨eI p, fun _ => h2, fun hne => absurd rfl hne, Or.inl ⟨yX12_isTask, cX12_isTask, 1, (some .boolean), k, 1, rfl, hf _ _ _ h1, List.forall_mem_cons.mpr ⟨hl, w_X12_isTask⟩, ⟨by decide +kernel, by decide +kernel, by decide +kernel⟩, rfl, by decide⟩⟩
  · cases h
-- PatchbayScriptModel.isLine(I)Z
def T_X12_isLine : List cRow := [(0, .iload_n 1, 1, 0), (1, .iconst 0, 2, 0), (2, .aload_n 0, 3, 0), (3, .getfield 204, 6, 0), (6, .iconst 1, 7, 0), (7, .isub, 8, 0), (8, .invokestatic 200, 11, 0), (11, .ireturn, 12, 0)]
theorem T_X12_isLine_ok : T_X12_isLine.all (rowB cX12_isLine) = true := by decide +kernel
def th_X12_isLine : List (Nat × Nat) := []
def sw_X12_isLine : List (Nat × (List (Int32 × Nat) × Nat)) := []
theorem sw_X12_isLine_ok : ∀ q ∈ sw_X12_isLine, swS cX12_isLine q := fun _ h => absurd h List.not_mem_nil
def na_X12_isLine : List (Nat × Nat) := [(600, 3)]
def ca_X12_isLine {R' : Type} (F : Nat) : List (Nat × cFn R') := [(600, n_X12_isIn (f_X12_isIn F))]
theorem ca_X12_isLine_ok {R' : Type} {q : cL} (hst : q.1.stackTraces = false) {D : Nat} (hD : 1 ≤ D) (F : Nat) : ∀ x ∈ (ca_X12_isLine (R' := R') F), 1 ≤ D ∧ ceS q RX12 (D - 1) x.1 x.2 := List.forall_mem_cons.mpr ⟨⟨by omega, n_X12_isIn_ok (k := 200) (lw_good_of (tb_ok 1341 (by decide +kernel)) rfl) (fun a0 a1 a2 M r h => c_X12_isIn hst (by omega) F a0 a1 a2 M r h)⟩, fun _ h => absurd h List.not_mem_nil⟩
set_option maxRecDepth 20000 in
theorem e_X12_isLine_0 (F : Nat) (x0 : Nat) (x1 : Int32) (M : cM) : b_X12_isLine_0 F x0 x1 M = run T_X12_isLine P_RX12 false 1 (naL na_X12_isLine) (caL (ca_X12_isLine F)) (lkN th_X12_isLine) (lkN sw_X12_isLine) krI kxN (spL []) (KL []) 11 0 [some (.ref x0), some (.int x1)] [] M := rfl
theorem ok_X12_isLine_0 {X : cCtx} {D : Nat} {r : Int32 × cM} (G : FX X 2 (eI r) cX12_isLine RX12 1 D) {F : Nat} (hca : ∀ x ∈ (ca_X12_isLine (R' := Int32 × cM) F), 1 ≤ D ∧ ceS X.1 RX12 (D - 1) x.1 x.2) : ∀ x0 x1 M, f_X12_isLine_0 F x0 x1 M = some r → WX X 2 (eI r) 0 [some (.ref x0), some (.int x1)] [] M := by
  intro x0 x1 M h
  exact seg_ok G P_RX12_ok T_X12_isLine_ok hca (fun _ h => absurd h List.not_mem_nil) sw_X12_isLine_ok krI_ok (kxN_ok (f := eI)) (fun _ h => absurd h List.not_mem_nil) ((e_X12_isLine_0 F x0 x1 M).symm.trans h)
theorem c_X12_isLine {q : cL} (hst : q.1.stackTraces = false) {D : Nat} (hD : 1 ≤ D) (F : Nat) (a0 : Nat) (a1 : Int32) (M : cM) (r : Int32 × cM) (h : f_X12_isLine F a0 a1 M = some r) : CTx q yX12_isLine (.code yX12_isLine cX12_isLine 2 (some .boolean)) D [.ref a0, .int a1] M (eI r) ∧ ∃ fs, M[a0]? = some (.inr (10, fs)) := by
  unfold f_X12_isLine at h
  split at h
  · next hi => exact ⟨CTx_of (own := RX12) (rk := 1) hst (by decide +kernel) rfl (rfl) (Nat.le_of_ble_eq_true rfl) (fun X hX G => by subst hX; exact ok_X12_isLine_0 G (ca_X12_isLine_ok hst hD F) a0 a1 M h), isC_of hi⟩
  · cases h
def n_X12_isLine {R' : Type} (f : Nat → Int32 → cM → Option (Int32 × cM)) : cFn R' := fun as M κ κx => match as with
  | [.ref a0, .int a1] => (f a0 a1 M).bind fun p => κ (some (.int p.1)) p.2
  | _ => none
theorem w_X12_isLine : ∀ w ∈ [Cond.instanceMethod yX12_isLine, .selects yX12_isLine.cls yX12_isLine yX12_isLine, .initialized yX12_isLine.cls, .code yX12_isLine cX12_isLine 2 (some .boolean)], w ∈ lw_good := List.forall_mem_cons.mpr ⟨lw_good_of (tb_ok 1421 (by decide +kernel)) rfl, List.forall_mem_cons.mpr ⟨lw_good_of (ts_ok 43 (by decide +kernel)) rfl, List.forall_mem_cons.mpr ⟨lw_good_of (tb_ok 11 (by decide +kernel)) rfl, List.forall_mem_cons.mpr ⟨lw_good_of (tb_ok 1422 (by decide +kernel)) rfl, fun _ h => absurd h List.not_mem_nil⟩⟩⟩⟩
theorem n_X12_isLine_ok {R' : Type} {q : cL} {own : String} {d k : Nat} {f : Nat → Int32 → cM → Option (Int32 × cM)} (hl : Cond.methodLink own k yX12_isLine ∈ lw_good) (hf : ∀ a0 a1 M r, f a0 a1 M = some r → CTx q yX12_isLine (.code yX12_isLine cX12_isLine 2 (some .boolean)) d [.ref a0, .int a1] M (eI r) ∧ ∃ fs, M[a0]? = some (.inr (10, fs))) : ceS q own d (3 * k + 1) (n_X12_isLine (R' := R') f) := by
  intro as M κ κx r h
  unfold n_X12_isLine at h
  split at h
  · obtain ⟨p, h1, h2⟩ := Option.bind_eq_some_iff.mp h
    obtain ⟨hc, fs, ha⟩ := hf _ _ _ _ h1
    exact ⟨eI p, fun _ => h2, fun hne => absurd rfl hne, Or.inr (Or.inl ⟨yX12_isLine, cX12_isLine, 2, (some .boolean), k, 1, _, _, 10, TX12, 76, fs, rfl, rfl, hc, ha, rfl, List.forall_mem_cons.mpr ⟨hl, w_X12_isLine⟩, ⟨rfl, by decide +kernel, by decide +kernel, by decide +kernel⟩, rfl, by decide⟩)⟩
  · cases h
-- PatchbayScriptModel.isLetter(I)Z
def T_X12_isLetter : List cRow := [(0, .iload_n 0, 1, 0), (1, .bipush 97, 3, 0), (3, .bipush 122, 5, 0), (5, .invokestatic 200, 8, 0), (8, .ifCond .ne 14, 11, 22), (11, .iload_n 0, 12, 0), (12, .bipush 65, 14, 0), (14, .bipush 90, 16, 0), (16, .invokestatic 200, 19, 0), (19, .ifCond .eq 7, 22, 26), (22, .iconst 1, 23, 0), (23, .goto 4, 26, 27), (26, .iconst 0, 27, 0), (27, .ireturn, 28, 0)]
theorem T_X12_isLetter_ok : T_X12_isLetter.all (rowB cX12_isLetter) = true := by decide +kernel
def th_X12_isLetter : List (Nat × Nat) := []
def sw_X12_isLetter : List (Nat × (List (Int32 × Nat) × Nat)) := []
theorem sw_X12_isLetter_ok : ∀ q ∈ sw_X12_isLetter, swS cX12_isLetter q := fun _ h => absurd h List.not_mem_nil
def na_X12_isLetter : List (Nat × Nat) := [(600, 3)]
def ca_X12_isLetter {R' : Type} (F : Nat) : List (Nat × cFn R') := [(600, n_X12_isIn (f_X12_isIn F))]
theorem ca_X12_isLetter_ok {R' : Type} {q : cL} (hst : q.1.stackTraces = false) {D : Nat} (hD : 1 ≤ D) (F : Nat) : ∀ x ∈ (ca_X12_isLetter (R' := R') F), 1 ≤ D ∧ ceS q RX12 (D - 1) x.1 x.2 := List.forall_mem_cons.mpr ⟨⟨by omega, n_X12_isIn_ok (k := 200) (lw_good_of (tb_ok 1341 (by decide +kernel)) rfl) (fun a0 a1 a2 M r h => c_X12_isIn hst (by omega) F a0 a1 a2 M r h)⟩, fun _ h => absurd h List.not_mem_nil⟩
set_option maxRecDepth 20000 in
theorem e_X12_isLetter_0 (F : Nat) (x0 : Int32) (M : cM) : b_X12_isLetter_0 F x0 M = run T_X12_isLetter P_RX12 false 1 (naL na_X12_isLetter) (caL (ca_X12_isLetter F)) (lkN th_X12_isLetter) (lkN sw_X12_isLetter) krI kxN (spL []) (KL []) 17 0 [some (.int x0)] [] M := rfl
theorem ok_X12_isLetter_0 {X : cCtx} {D : Nat} {r : Int32 × cM} (G : FX X 1 (eI r) cX12_isLetter RX12 1 D) {F : Nat} (hca : ∀ x ∈ (ca_X12_isLetter (R' := Int32 × cM) F), 1 ≤ D ∧ ceS X.1 RX12 (D - 1) x.1 x.2) : ∀ x0 M, f_X12_isLetter_0 F x0 M = some r → WX X 1 (eI r) 0 [some (.int x0)] [] M := by
  intro x0 M h
  exact seg_ok G P_RX12_ok T_X12_isLetter_ok hca (fun _ h => absurd h List.not_mem_nil) sw_X12_isLetter_ok krI_ok (kxN_ok (f := eI)) (fun _ h => absurd h List.not_mem_nil) ((e_X12_isLetter_0 F x0 M).symm.trans h)
theorem c_X12_isLetter {q : cL} (hst : q.1.stackTraces = false) {D : Nat} (hD : 1 ≤ D) (F : Nat) (a0 : Int32) (M : cM) (r : Int32 × cM) (h : f_X12_isLetter F a0 M = some r) : CTx q yX12_isLetter (.code yX12_isLetter cX12_isLetter 1 (some .boolean)) D [.int a0] M (eI r) := by
  exact CTx_of (own := RX12) (rk := 1) hst (by decide +kernel) rfl (rfl) (Nat.le_of_ble_eq_true rfl) (fun X hX G => by subst hX; exact ok_X12_isLetter_0 G (ca_X12_isLetter_ok hst hD F) a0 M h)
def n_X12_isLetter {R' : Type} (f : Int32 → cM → Option (Int32 × cM)) : cFn R' := fun as M κ κx => match as with
  | [.int a0] => (f a0 M).bind fun p => κ (some (.int p.1)) p.2
  | _ => none
theorem w_X12_isLetter : ∀ w ∈ [Cond.static yX12_isLetter, .initialized yX12_isLetter.cls, .code yX12_isLetter cX12_isLetter 1 (some .boolean)], w ∈ lw_good := List.forall_mem_cons.mpr ⟨lw_good_of (tb_ok 1339 (by decide +kernel)) rfl, List.forall_mem_cons.mpr ⟨lw_good_of (tb_ok 11 (by decide +kernel)) rfl, List.forall_mem_cons.mpr ⟨lw_good_of (tb_ok 1340 (by decide +kernel)) rfl, fun _ h => absurd h List.not_mem_nil⟩⟩⟩
theorem n_X12_isLetter_ok {R' : Type} {q : cL} {own : String} {d k : Nat} {f : Int32 → cM → Option (Int32 × cM)} (hl : Cond.methodLink own k yX12_isLetter ∈ lw_good) (hf : ∀ a0 M r, f a0 M = some r → CTx q yX12_isLetter (.code yX12_isLetter cX12_isLetter 1 (some .boolean)) d [.int a0] M (eI r)) : ceS q own d (3 * k) (n_X12_isLetter (R' := R') f) := by
  intro as M κ κx r h
  unfold n_X12_isLetter at h
  split at h
  · obtain ⟨p, h1, h2⟩ := Option.bind_eq_some_iff.mp h
    exact ⟨eI p, fun _ => h2, fun hne => absurd rfl hne, Or.inl ⟨yX12_isLetter, cX12_isLetter, 1, (some .boolean), k, 1, rfl, hf _ _ _ h1, List.forall_mem_cons.mpr ⟨hl, w_X12_isLetter⟩, ⟨by decide +kernel, by decide +kernel, by decide +kernel⟩, rfl, by decide⟩⟩
  · cases h
-- PatchbayScriptModel.isDigit(I)Z
def T_X12_isDigit : List cRow := [(0, .iload_n 0, 1, 0), (1, .bipush 48, 3, 0), (3, .bipush 57, 5, 0), (5, .invokestatic 200, 8, 0), (8, .ireturn, 9, 0)]
theorem T_X12_isDigit_ok : T_X12_isDigit.all (rowB cX12_isDigit) = true := by decide +kernel
def th_X12_isDigit : List (Nat × Nat) := []
def sw_X12_isDigit : List (Nat × (List (Int32 × Nat) × Nat)) := []
theorem sw_X12_isDigit_ok : ∀ q ∈ sw_X12_isDigit, swS cX12_isDigit q := fun _ h => absurd h List.not_mem_nil
def na_X12_isDigit : List (Nat × Nat) := [(600, 3)]
def ca_X12_isDigit {R' : Type} (F : Nat) : List (Nat × cFn R') := [(600, n_X12_isIn (f_X12_isIn F))]
theorem ca_X12_isDigit_ok {R' : Type} {q : cL} (hst : q.1.stackTraces = false) {D : Nat} (hD : 1 ≤ D) (F : Nat) : ∀ x ∈ (ca_X12_isDigit (R' := R') F), 1 ≤ D ∧ ceS q RX12 (D - 1) x.1 x.2 := List.forall_mem_cons.mpr ⟨⟨by omega, n_X12_isIn_ok (k := 200) (lw_good_of (tb_ok 1341 (by decide +kernel)) rfl) (fun a0 a1 a2 M r h => c_X12_isIn hst (by omega) F a0 a1 a2 M r h)⟩, fun _ h => absurd h List.not_mem_nil⟩
set_option maxRecDepth 20000 in
theorem e_X12_isDigit_0 (F : Nat) (x0 : Int32) (M : cM) : b_X12_isDigit_0 F x0 M = run T_X12_isDigit P_RX12 false 1 (naL na_X12_isDigit) (caL (ca_X12_isDigit F)) (lkN th_X12_isDigit) (lkN sw_X12_isDigit) krI kxN (spL []) (KL []) 8 0 [some (.int x0)] [] M := rfl
theorem ok_X12_isDigit_0 {X : cCtx} {D : Nat} {r : Int32 × cM} (G : FX X 1 (eI r) cX12_isDigit RX12 1 D) {F : Nat} (hca : ∀ x ∈ (ca_X12_isDigit (R' := Int32 × cM) F), 1 ≤ D ∧ ceS X.1 RX12 (D - 1) x.1 x.2) : ∀ x0 M, f_X12_isDigit_0 F x0 M = some r → WX X 1 (eI r) 0 [some (.int x0)] [] M := by
  intro x0 M h
  exact seg_ok G P_RX12_ok T_X12_isDigit_ok hca (fun _ h => absurd h List.not_mem_nil) sw_X12_isDigit_ok krI_ok (kxN_ok (f := eI)) (fun _ h => absurd h List.not_mem_nil) ((e_X12_isDigit_0 F x0 M).symm.trans h)
theorem c_X12_isDigit {q : cL} (hst : q.1.stackTraces = false) {D : Nat} (hD : 1 ≤ D) (F : Nat) (a0 : Int32) (M : cM) (r : Int32 × cM) (h : f_X12_isDigit F a0 M = some r) : CTx q yX12_isDigit (.code yX12_isDigit cX12_isDigit 1 (some .boolean)) D [.int a0] M (eI r) := by
  exact CTx_of (own := RX12) (rk := 1) hst (by decide +kernel) rfl (rfl) (Nat.le_of_ble_eq_true rfl) (fun X hX G => by subst hX; exact ok_X12_isDigit_0 G (ca_X12_isDigit_ok hst hD F) a0 M h)
def n_X12_isDigit {R' : Type} (f : Int32 → cM → Option (Int32 × cM)) : cFn R' := fun as M κ κx => match as with
  | [.int a0] => (f a0 M).bind fun p => κ (some (.int p.1)) p.2
  | _ => none
theorem w_X12_isDigit : ∀ w ∈ [Cond.static yX12_isDigit, .initialized yX12_isDigit.cls, .code yX12_isDigit cX12_isDigit 1 (some .boolean)], w ∈ lw_good := List.forall_mem_cons.mpr ⟨lw_good_of (tb_ok 1345 (by decide +kernel)) rfl, List.forall_mem_cons.mpr ⟨lw_good_of (tb_ok 11 (by decide +kernel)) rfl, List.forall_mem_cons.mpr ⟨lw_good_of (tb_ok 1346 (by decide +kernel)) rfl, fun _ h => absurd h List.not_mem_nil⟩⟩⟩
theorem n_X12_isDigit_ok {R' : Type} {q : cL} {own : String} {d k : Nat} {f : Int32 → cM → Option (Int32 × cM)} (hl : Cond.methodLink own k yX12_isDigit ∈ lw_good) (hf : ∀ a0 M r, f a0 M = some r → CTx q yX12_isDigit (.code yX12_isDigit cX12_isDigit 1 (some .boolean)) d [.int a0] M (eI r)) : ceS q own d (3 * k) (n_X12_isDigit (R' := R') f) := by
  intro as M κ κx r h
  unfold n_X12_isDigit at h
  split at h
  · obtain ⟨p, h1, h2⟩ := Option.bind_eq_some_iff.mp h
    exact ⟨eI p, fun _ => h2, fun hne => absurd rfl hne, Or.inl ⟨yX12_isDigit, cX12_isDigit, 1, (some .boolean), k, 1, rfl, hf _ _ _ h1, List.forall_mem_cons.mpr ⟨hl, w_X12_isDigit⟩, ⟨by decide +kernel, by decide +kernel, by decide +kernel⟩, rfl, by decide⟩⟩
  · cases h
-- PatchbayScriptModel.isOf(II)Z
def T_X12_isOf : List cRow := [(0, .iload_n 1, 1, 0), (1, .ifCond .ne 10, 4, 11), (4, .iload_n 0, 5, 0), (5, .invokestatic 207, 8, 0), (8, .goto 42, 11, 50), (11, .iload_n 1, 12, 0), (12, .iconst 1, 13, 0), (13, .if_icmp .ne 10, 16, 23), (16, .iload_n 0, 17, 0), (17, .invokestatic 211, 20, 0), (20, .goto 30, 23, 50), (23, .iload_n 1, 24, 0), (24, .iconst 2, 25, 0), (25, .if_icmp .ne 14, 28, 39), (28, .iload_n 0, 29, 0), (29, .bipush 65, 31, 0), (31, .bipush 90, 33, 0), (33, .invokestatic 200, 36, 0), (36, .goto 14, 39, 50), (39, .iload_n 0, 40, 0), (40, .bipush 32, 42, 0), (42, .if_icmp .eq 7, 45, 49), (45, .iconst 1, 46, 0), (46, .goto 4, 49, 50), (49, .iconst 0, 50, 0), (50, .ireturn, 51, 0)]
theorem T_X12_isOf_ok : T_X12_isOf.all (rowB cX12_isOf) = true := by decide +kernel
def th_X12_isOf : List (Nat × Nat) := []
def sw_X12_isOf : List (Nat × (List (Int32 × Nat) × Nat)) := []
theorem sw_X12_isOf_ok : ∀ q ∈ sw_X12_isOf, swS cX12_isOf q := fun _ h => absurd h List.not_mem_nil
def na_X12_isOf : List (Nat × Nat) := [(621, 1), (633, 1), (600, 3)]
def ca_X12_isOf {R' : Type} (F : Nat) : List (Nat × cFn R') := [(621, n_X12_isDigit (f_X12_isDigit F)), (633, n_X12_isLetter (f_X12_isLetter F)), (600, n_X12_isIn (f_X12_isIn F))]
theorem ca_X12_isOf_ok {R' : Type} {q : cL} (hst : q.1.stackTraces = false) {D : Nat} (hD : 2 ≤ D) (F : Nat) : ∀ x ∈ (ca_X12_isOf (R' := R') F), 1 ≤ D ∧ ceS q RX12 (D - 1) x.1 x.2 := List.forall_mem_cons.mpr ⟨⟨by omega, n_X12_isDigit_ok (k := 207) (lw_good_of (tb_ok 1344 (by decide +kernel)) rfl) (fun a0 M r h => c_X12_isDigit hst (by omega) F a0 M r h)⟩, List.forall_mem_cons.mpr ⟨⟨by omega, n_X12_isLetter_ok (k := 211) (lw_good_of (tb_ok 1338 (by decide +kernel)) rfl) (fun a0 M r h => c_X12_isLetter hst (by omega) F a0 M r h)⟩, List.forall_mem_cons.mpr ⟨⟨by omega, n_X12_isIn_ok (k := 200) (lw_good_of (tb_ok 1341 (by decide +kernel)) rfl) (fun a0 a1 a2 M r h => c_X12_isIn hst (by omega) F a0 a1 a2 M r h)⟩, fun _ h => absurd h List.not_mem_nil⟩⟩⟩
set_option maxRecDepth 20000 in
theorem e_X12_isOf_0 (F : Nat) (x0 : Int32) (x1 : Int32) (M : cM) : b_X12_isOf_0 F x0 x1 M = run T_X12_isOf P_RX12 false 1 (naL na_X12_isOf) (caL (ca_X12_isOf F)) (lkN th_X12_isOf) (lkN sw_X12_isOf) krI kxN (spL []) (KL []) 29 0 [some (.int x0), some (.int x1)] [] M := rfl
theorem ok_X12_isOf_0 {X : cCtx} {D : Nat} {r : Int32 × cM} (G : FX X 2 (eI r) cX12_isOf RX12 1 D) {F : Nat} (hca : ∀ x ∈ (ca_X12_isOf (R' := Int32 × cM) F), 1 ≤ D ∧ ceS X.1 RX12 (D - 1) x.1 x.2) : ∀ x0 x1 M, f_X12_isOf_0 F x0 x1 M = some r → WX X 2 (eI r) 0 [some (.int x0), some (.int x1)] [] M := by
  intro x0 x1 M h
  exact seg_ok G P_RX12_ok T_X12_isOf_ok hca (fun _ h => absurd h List.not_mem_nil) sw_X12_isOf_ok krI_ok (kxN_ok (f := eI)) (fun _ h => absurd h List.not_mem_nil) ((e_X12_isOf_0 F x0 x1 M).symm.trans h)
theorem c_X12_isOf {q : cL} (hst : q.1.stackTraces = false) {D : Nat} (hD : 2 ≤ D) (F : Nat) (a0 : Int32) (a1 : Int32) (M : cM) (r : Int32 × cM) (h : f_X12_isOf F a0 a1 M = some r) : CTx q yX12_isOf (.code yX12_isOf cX12_isOf 2 (some .boolean)) D [.int a0, .int a1] M (eI r) := by
  exact CTx_of (own := RX12) (rk := 1) hst (by decide +kernel) rfl (rfl) (Nat.le_of_ble_eq_true rfl) (fun X hX G => by subst hX; exact ok_X12_isOf_0 G (ca_X12_isOf_ok hst hD F) a0 a1 M h)
def n_X12_isOf {R' : Type} (f : Int32 → Int32 → cM → Option (Int32 × cM)) : cFn R' := fun as M κ κx => match as with
  | [.int a0, .int a1] => (f a0 a1 M).bind fun p => κ (some (.int p.1)) p.2
  | _ => none
theorem w_X12_isOf : ∀ w ∈ [Cond.static yX12_isOf, .initialized yX12_isOf.cls, .code yX12_isOf cX12_isOf 2 (some .boolean)], w ∈ lw_good := List.forall_mem_cons.mpr ⟨lw_good_of (tb_ok 1376 (by decide +kernel)) rfl, List.forall_mem_cons.mpr ⟨lw_good_of (tb_ok 11 (by decide +kernel)) rfl, List.forall_mem_cons.mpr ⟨lw_good_of (tb_ok 1377 (by decide +kernel)) rfl, fun _ h => absurd h List.not_mem_nil⟩⟩⟩
theorem n_X12_isOf_ok {R' : Type} {q : cL} {own : String} {d k : Nat} {f : Int32 → Int32 → cM → Option (Int32 × cM)} (hl : Cond.methodLink own k yX12_isOf ∈ lw_good) (hf : ∀ a0 a1 M r, f a0 a1 M = some r → CTx q yX12_isOf (.code yX12_isOf cX12_isOf 2 (some .boolean)) d [.int a0, .int a1] M (eI r)) : ceS q own d (3 * k) (n_X12_isOf (R' := R') f) := by
  intro as M κ κx r h
  unfold n_X12_isOf at h
  split at h
  · obtain ⟨p, h1, h2⟩ := Option.bind_eq_some_iff.mp h
    exact ⟨eI p, fun _ => h2, fun hne => absurd rfl hne, Or.inl ⟨yX12_isOf, cX12_isOf, 2, (some .boolean), k, 2, rfl, hf _ _ _ _ h1, List.forall_mem_cons.mpr ⟨hl, w_X12_isOf⟩, ⟨by decide +kernel, by decide +kernel, by decide +kernel⟩, rfl, by decide⟩⟩
  · cases h
-- PatchbayScriptModel.isSign(I)Z
def T_X12_isSign : List cRow := [(0, .iload_n 0, 1, 0), (1, .invokestatic 211, 4, 0), (4, .ifCond .ne 40, 7, 44), (7, .iload_n 0, 8, 0), (8, .invokestatic 207, 11, 0), (11, .ifCond .ne 33, 14, 44), (14, .iload_n 0, 15, 0), (15, .bipush 32, 17, 0), (17, .if_icmp .eq 27, 20, 44), (20, .iload_n 0, 21, 0), (21, .bipush 44, 23, 0), (23, .if_icmp .eq 21, 26, 44), (26, .iload_n 0, 27, 0), (27, .bipush 46, 29, 0), (29, .if_icmp .eq 15, 32, 44), (32, .iload_n 0, 33, 0), (33, .bipush 45, 35, 0), (35, .if_icmp .eq 9, 38, 44), (38, .iload_n 0, 39, 0), (39, .bipush 47, 41, 0), (41, .if_icmp .ne 7, 44, 48), (44, .iconst 1, 45, 0), (45, .goto 4, 48, 49), (48, .iconst 0, 49, 0), (49, .ireturn, 50, 0)]
theorem T_X12_isSign_ok : T_X12_isSign.all (rowB cX12_isSign) = true := by decide +kernel
def th_X12_isSign : List (Nat × Nat) := []
def sw_X12_isSign : List (Nat × (List (Int32 × Nat) × Nat)) := []
theorem sw_X12_isSign_ok : ∀ q ∈ sw_X12_isSign, swS cX12_isSign q := fun _ h => absurd h List.not_mem_nil
def na_X12_isSign : List (Nat × Nat) := [(633, 1), (621, 1)]
def ca_X12_isSign {R' : Type} (F : Nat) : List (Nat × cFn R') := [(633, n_X12_isLetter (f_X12_isLetter F)), (621, n_X12_isDigit (f_X12_isDigit F))]
theorem ca_X12_isSign_ok {R' : Type} {q : cL} (hst : q.1.stackTraces = false) {D : Nat} (hD : 2 ≤ D) (F : Nat) : ∀ x ∈ (ca_X12_isSign (R' := R') F), 1 ≤ D ∧ ceS q RX12 (D - 1) x.1 x.2 := List.forall_mem_cons.mpr ⟨⟨by omega, n_X12_isLetter_ok (k := 211) (lw_good_of (tb_ok 1338 (by decide +kernel)) rfl) (fun a0 M r h => c_X12_isLetter hst (by omega) F a0 M r h)⟩, List.forall_mem_cons.mpr ⟨⟨by omega, n_X12_isDigit_ok (k := 207) (lw_good_of (tb_ok 1344 (by decide +kernel)) rfl) (fun a0 M r h => c_X12_isDigit hst (by omega) F a0 M r h)⟩, fun _ h => absurd h List.not_mem_nil⟩⟩
set_option maxRecDepth 20000 in
theorem e_X12_isSign_0 (F : Nat) (x0 : Int32) (M : cM) : b_X12_isSign_0 F x0 M = run T_X12_isSign P_RX12 false 1 (naL na_X12_isSign) (caL (ca_X12_isSign F)) (lkN th_X12_isSign) (lkN sw_X12_isSign) krI kxN (spL []) (KL []) 28 0 [some (.int x0)] [] M := rfl
theorem ok_X12_isSign_0 {X : cCtx} {D : Nat} {r : Int32 × cM} (G : FX X 1 (eI r) cX12_isSign RX12 1 D) {F : Nat} (hca : ∀ x ∈ (ca_X12_isSign (R' := Int32 × cM) F), 1 ≤ D ∧ ceS X.1 RX12 (D - 1) x.1 x.2) : ∀ x0 M, f_X12_isSign_0 F x0 M = some r → WX X 1 (eI r) 0 [some (.int x0)] [] M := by
  intro x0 M h
  exact seg_ok G P_RX12_ok T_X12_isSign_ok hca (fun _ h => absurd h List.not_mem_nil) sw_X12_isSign_ok krI_ok (kxN_ok (f := eI)) (fun _ h => absurd h List.not_mem_nil) ((e_X12_isSign_0 F x0 M).symm.trans h)
theorem c_X12_isSign {q : cL} (hst : q.1.stackTraces = false) {D : Nat} (hD : 2 ≤ D) (F : Nat) (a0 : Int32) (M : cM) (r : Int32 × cM) (h : f_X12_isSign F a0 M = some r) : CTx q yX12_isSign (.code yX12_isSign cX12_isSign 1 (some .boolean)) D [.int a0] M (eI r) := by
  exact CTx_of (own := RX12) (rk := 1) hst (by decide +kernel) rfl (rfl) (Nat.le_of_ble_eq_true rfl) (fun X hX G => by subst hX; exact ok_X12_isSign_0 G (ca_X12_isSign_ok hst hD F) a0 M h)
def n_X12_isSign {R' : Type} (f : Int32 → cM → Option (Int32 × cM)) : cFn R' := fun as M κ κx => match as with
  | [.int a0] => (f a0 M).bind fun p => κ (some (.int p.1)) p.2
  | _ => none
theorem w_X12_isSign : ∀ w ∈ [Cond.static yX12_isSign, .initialized yX12_isSign.cls, .code yX12_isSign cX12_isSign 1 (some .boolean)], w ∈ lw_good := List.forall_mem_cons.mpr ⟨lw_good_of (tb_ok 1336 (by decide +kernel)) rfl, List.forall_mem_cons.mpr ⟨lw_good_of (tb_ok 11 (by decide +kernel)) rfl, List.forall_mem_cons.mpr ⟨lw_good_of (tb_ok 1337 (by decide +kernel)) rfl, fun _ h => absurd h List.not_mem_nil⟩⟩⟩
theorem n_X12_isSign_ok {R' : Type} {q : cL} {own : String} {d k : Nat} {f : Int32 → cM → Option (Int32 × cM)} (hl : Cond.methodLink own k yX12_isSign ∈ lw_good) (hf : ∀ a0 M r, f a0 M = some r → CTx q yX12_isSign (.code yX12_isSign cX12_isSign 1 (some .boolean)) d [.int a0] M (eI r)) : ceS q own d (3 * k) (n_X12_isSign (R' := R') f) := by
  intro as M κ κx r h
  unfold n_X12_isSign at h
  split at h
  · obtain ⟨p, h1, h2⟩ := Option.bind_eq_some_iff.mp h
    exact ⟨eI p, fun _ => h2, fun hne => absurd rfl hne, Or.inl ⟨yX12_isSign, cX12_isSign, 1, (some .boolean), k, 1, rfl, hf _ _ _ h1, List.forall_mem_cons.mpr ⟨hl, w_X12_isSign⟩, ⟨by decide +kernel, by decide +kernel, by decide +kernel⟩, rfl, by decide⟩⟩
  · cases h
-- PatchbayScriptModel.upper(I)I
def T_X12_upper : List cRow := [(0, .iload_n 0, 1, 0), (1, .bipush 97, 3, 0), (3, .bipush 122, 5, 0), (5, .invokestatic 200, 8, 0), (8, .ifCond .eq 10, 11, 18), (11, .iload_n 0, 12, 0), (12, .bipush 32, 14, 0), (14, .isub, 15, 0), (15, .goto 4, 18, 19), (18, .iload_n 0, 19, 0), (19, .ireturn, 20, 0)]
theorem T_X12_upper_ok : T_X12_upper.all (rowB cX12_upper) = true := by decide +kernel
def th_X12_upper : List (Nat × Nat) := []
def sw_X12_upper : List (Nat × (List (Int32 × Nat) × Nat)) := []
theorem sw_X12_upper_ok : ∀ q ∈ sw_X12_upper, swS cX12_upper q := fun _ h => absurd h List.not_mem_nil
def na_X12_upper : List (Nat × Nat) := [(600, 3)]
def ca_X12_upper {R' : Type} (F : Nat) : List (Nat × cFn R') := [(600, n_X12_isIn (f_X12_isIn F))]
theorem ca_X12_upper_ok {R' : Type} {q : cL} (hst : q.1.stackTraces = false) {D : Nat} (hD : 1 ≤ D) (F : Nat) : ∀ x ∈ (ca_X12_upper (R' := R') F), 1 ≤ D ∧ ceS q RX12 (D - 1) x.1 x.2 := List.forall_mem_cons.mpr ⟨⟨by omega, n_X12_isIn_ok (k := 200) (lw_good_of (tb_ok 1341 (by decide +kernel)) rfl) (fun a0 a1 a2 M r h => c_X12_isIn hst (by omega) F a0 a1 a2 M r h)⟩, fun _ h => absurd h List.not_mem_nil⟩
set_option maxRecDepth 20000 in
theorem e_X12_upper_0 (F : Nat) (x0 : Int32) (M : cM) : b_X12_upper_0 F x0 M = run T_X12_upper P_RX12 false 0 (naL na_X12_upper) (caL (ca_X12_upper F)) (lkN th_X12_upper) (lkN sw_X12_upper) krI kxN (spL []) (KL []) 14 0 [some (.int x0)] [] M := rfl
theorem ok_X12_upper_0 {X : cCtx} {D : Nat} {r : Int32 × cM} (G : FX X 1 (eI r) cX12_upper RX12 0 D) {F : Nat} (hca : ∀ x ∈ (ca_X12_upper (R' := Int32 × cM) F), 1 ≤ D ∧ ceS X.1 RX12 (D - 1) x.1 x.2) : ∀ x0 M, f_X12_upper_0 F x0 M = some r → WX X 1 (eI r) 0 [some (.int x0)] [] M := by
  intro x0 M h
  exact seg_ok G P_RX12_ok T_X12_upper_ok hca (fun _ h => absurd h List.not_mem_nil) sw_X12_upper_ok krI_ok (kxN_ok (f := eI)) (fun _ h => absurd h List.not_mem_nil) ((e_X12_upper_0 F x0 M).symm.trans h)
theorem c_X12_upper {q : cL} (hst : q.1.stackTraces = false) {D : Nat} (hD : 1 ≤ D) (F : Nat) (a0 : Int32) (M : cM) (r : Int32 × cM) (h : f_X12_upper F a0 M = some r) : CTx q yX12_upper (.code yX12_upper cX12_upper 1 (some .int)) D [.int a0] M (eI r) := by
  exact CTx_of (own := RX12) (rk := 0) hst (by decide +kernel) rfl (rfl) (Nat.le_of_ble_eq_true rfl) (fun X hX G => by subst hX; exact ok_X12_upper_0 G (ca_X12_upper_ok hst hD F) a0 M h)
def n_X12_upper {R' : Type} (f : Int32 → cM → Option (Int32 × cM)) : cFn R' := fun as M κ κx => match as with
  | [.int a0] => (f a0 M).bind fun p => κ (some (.int p.1)) p.2
  | _ => none
theorem w_X12_upper : ∀ w ∈ [Cond.static yX12_upper, .initialized yX12_upper.cls, .code yX12_upper cX12_upper 1 (some .int)], w ∈ lw_good := List.forall_mem_cons.mpr ⟨lw_good_of (tb_ok 1406 (by decide +kernel)) rfl, List.forall_mem_cons.mpr ⟨lw_good_of (tb_ok 11 (by decide +kernel)) rfl, List.forall_mem_cons.mpr ⟨lw_good_of (tb_ok 1407 (by decide +kernel)) rfl, fun _ h => absurd h List.not_mem_nil⟩⟩⟩
theorem n_X12_upper_ok {R' : Type} {q : cL} {own : String} {d k : Nat} {f : Int32 → cM → Option (Int32 × cM)} (hl : Cond.methodLink own k yX12_upper ∈ lw_good) (hf : ∀ a0 M r, f a0 M = some r → CTx q yX12_upper (.code yX12_upper cX12_upper 1 (some .int)) d [.int a0] M (eI r)) : ceS q own d (3 * k) (n_X12_upper (R' := R') f) := by
  intro as M κ κx r h
  unfold n_X12_upper at h
  split at h
  · obtain ⟨p, h1, h2⟩ := Option.bind_eq_some_iff.mp h
    exact ⟨eI p, fun _ => h2, fun hne => absurd rfl hne, Or.inl ⟨yX12_upper, cX12_upper, 1, (some .int), k, 1, rfl, hf _ _ _ h1, List.forall_mem_cons.mpr ⟨hl, w_X12_upper⟩, ⟨by decide +kernel, by decide +kernel, by decide +kernel⟩, rfl, by decide⟩⟩
  · cases h
-- PatchbayScriptModel.lower(I)I
def T_X12_lower : List cRow := [(0, .iload_n 0, 1, 0), (1, .bipush 65, 3, 0), (3, .bipush 90, 5, 0), (5, .invokestatic 200, 8, 0), (8, .ifCond .eq 10, 11, 18), (11, .iload_n 0, 12, 0), (12, .bipush 32, 14, 0), (14, .iadd, 15, 0), (15, .goto 4, 18, 19), (18, .iload_n 0, 19, 0), (19, .ireturn, 20, 0)]
theorem T_X12_lower_ok : T_X12_lower.all (rowB cX12_lower) = true := by decide +kernel
def th_X12_lower : List (Nat × Nat) := []
def sw_X12_lower : List (Nat × (List (Int32 × Nat) × Nat)) := []
theorem sw_X12_lower_ok : ∀ q ∈ sw_X12_lower, swS cX12_lower q := fun _ h => absurd h List.not_mem_nil
def na_X12_lower : List (Nat × Nat) := [(600, 3)]
def ca_X12_lower {R' : Type} (F : Nat) : List (Nat × cFn R') := [(600, n_X12_isIn (f_X12_isIn F))]
theorem ca_X12_lower_ok {R' : Type} {q : cL} (hst : q.1.stackTraces = false) {D : Nat} (hD : 1 ≤ D) (F : Nat) : ∀ x ∈ (ca_X12_lower (R' := R') F), 1 ≤ D ∧ ceS q RX12 (D - 1) x.1 x.2 := List.forall_mem_cons.mpr ⟨⟨by omega, n_X12_isIn_ok (k := 200) (lw_good_of (tb_ok 1341 (by decide +kernel)) rfl) (fun a0 a1 a2 M r h => c_X12_isIn hst (by omega) F a0 a1 a2 M r h)⟩, fun _ h => absurd h List.not_mem_nil⟩
set_option maxRecDepth 20000 in
theorem e_X12_lower_0 (F : Nat) (x0 : Int32) (M : cM) : b_X12_lower_0 F x0 M = run T_X12_lower P_RX12 false 0 (naL na_X12_lower) (caL (ca_X12_lower F)) (lkN th_X12_lower) (lkN sw_X12_lower) krI kxN (spL []) (KL []) 14 0 [some (.int x0)] [] M := rfl
theorem ok_X12_lower_0 {X : cCtx} {D : Nat} {r : Int32 × cM} (G : FX X 1 (eI r) cX12_lower RX12 0 D) {F : Nat} (hca : ∀ x ∈ (ca_X12_lower (R' := Int32 × cM) F), 1 ≤ D ∧ ceS X.1 RX12 (D - 1) x.1 x.2) : ∀ x0 M, f_X12_lower_0 F x0 M = some r → WX X 1 (eI r) 0 [some (.int x0)] [] M := by
  intro x0 M h
  exact seg_ok G P_RX12_ok T_X12_lower_ok hca (fun _ h => absurd h List.not_mem_nil) sw_X12_lower_ok krI_ok (kxN_ok (f := eI)) (fun _ h => absurd h List.not_mem_nil) ((e_X12_lower_0 F x0 M).symm.trans h)
theorem c_X12_lower {q : cL} (hst : q.1.stackTraces = false) {D : Nat} (hD : 1 ≤ D) (F : Nat) (a0 : Int32) (M : cM) (r : Int32 × cM) (h : f_X12_lower F a0 M = some r) : CTx q yX12_lower (.code yX12_lower cX12_lower 1 (some .int)) D [.int a0] M (eI r) := by
  exact CTx_of (own := RX12) (rk := 0) hst (by decide +kernel) rfl (rfl) (Nat.le_of_ble_eq_true rfl) (fun X hX G => by subst hX; exact ok_X12_lower_0 G (ca_X12_lower_ok hst hD F) a0 M h)
def n_X12_lower {R' : Type} (f : Int32 → cM → Option (Int32 × cM)) : cFn R' := fun as M κ κx => match as with
  | [.int a0] => (f a0 M).bind fun p => κ (some (.int p.1)) p.2
  | _ => none
theorem w_X12_lower : ∀ w ∈ [Cond.static yX12_lower, .initialized yX12_lower.cls, .code yX12_lower cX12_lower 1 (some .int)], w ∈ lw_good := List.forall_mem_cons.mpr ⟨lw_good_of (tb_ok 1409 (by decide +kernel)) rfl, List.forall_mem_cons.mpr ⟨lw_good_of (tb_ok 11 (by decide +kernel)) rfl, List.forall_mem_cons.mpr ⟨lw_good_of (tb_ok 1410 (by decide +kernel)) rfl, fun _ h => absurd h List.not_mem_nil⟩⟩⟩
theorem n_X12_lower_ok {R' : Type} {q : cL} {own : String} {d k : Nat} {f : Int32 → cM → Option (Int32 × cM)} (hl : Cond.methodLink own k yX12_lower ∈ lw_good) (hf : ∀ a0 M r, f a0 M = some r → CTx q yX12_lower (.code yX12_lower cX12_lower 1 (some .int)) d [.int a0] M (eI r)) : ceS q own d (3 * k) (n_X12_lower (R' := R') f) := by
  intro as M κ κx r h
  unfold n_X12_lower at h
  split at h
  · obtain ⟨p, h1, h2⟩ := Option.bind_eq_some_iff.mp h
    exact ⟨eI p, fun _ => h2, fun hne => absurd rfl hne, Or.inl ⟨yX12_lower, cX12_lower, 1, (some .int), k, 1, rfl, hf _ _ _ h1, List.forall_mem_cons.mpr ⟨hl, w_X12_lower⟩, ⟨by decide +kernel, by decide +kernel, by decide +kernel⟩, rfl, by decide⟩⟩
  · cases h
-- PatchbayScriptModel.laysRuns()V
def T_X12_laysRuns : List cRow := [(0, .iconst 0, 1, 0), (1, .istore_n 1, 2, 0), (2, .iload_n 1, 3, 0), (3, .iconst 4, 4, 0), (4, .if_icmp .ge 141, 7, 145), (7, .aload_n 0, 8, 0), (8, .getfield 116, 11, 0), (11, .iload_n 1, 12, 0), (12, .iconst 0, 13, 0), (13, .iastore, 14, 0), (14, .iconst 0, 15, 0), (15, .istore_n 2, 16, 0), (16, .iload_n 2, 17, 0), (17, .aload_n 0, 18, 0), (18, .getfield 214, 21, 0), (21, .if_icmp .ge 118, 24, 139), (24, .aload_n 0, 25, 0), (25, .getfield 113, 28, 0), (28, .iload_n 2, 29, 0), (29, .iaload, 30, 0), (30, .iload_n 1, 31, 0), (31, .invokestatic 220, 34, 0), (34, .istore_n 3, 35, 0), (35, .iload_n 3, 36, 0), (36, .ifCond .eq 39, 39, 75), (39, .iload_n 2, 40, 0), (40, .ifCond .eq 18, 43, 58), (43, .aload_n 0, 44, 0), (44, .getfield 113, 47, 0), (47, .iload_n 2, 48, 0), (48, .iconst 1, 49, 0), (49, .isub, 50, 0), (50, .iaload, 51, 0), (51, .iload_n 1, 52, 0), (52, .invokestatic 220, 55, 0), (55, .ifCond .ne 20, 58, 75), (58, .aload_n 0, 59, 0), (59, .getfield 119, 62, 0), (62, .bipush 11, 64, 0), (64, .iload_n 1, 65, 0), (65, .imul, 66, 0), (66, .aload_n 0, 67, 0), (67, .getfield 116, 70, 0), (70, .iload_n 1, 71, 0), (71, .iaload, 72, 0), (72, .iadd, 73, 0), (73, .iload_n 2, 74, 0), (74, .iastore, 75, 0), (75, .iload_n 3, 76, 0), (76, .ifCond .eq 57, 79, 133), (79, .iload_n 2, 80, 0), (80, .iconst 1, 81, 0), (81, .iadd, 82, 0), (82, .aload_n 0, 83, 0), (83, .getfield 214, 86, 0), (86, .if_icmp .eq 18, 89, 104), (89, .aload_n 0, 90, 0), (90, .getfield 113, 93, 0), (93, .iload_n 2, 94, 0), (94, .iconst 1, 95, 0), (95, .iadd, 96, 0), (96, .iaload, 97, 0), (97, .iload_n 1, 98, 0), (98, .invokestatic 220, 101, 0), (101, .ifCond .ne 32, 104, 133), (104, .aload_n 0, 105, 0), (105, .getfield 122, 108, 0), (108, .bipush 11, 110, 0), (110, .iload_n 1, 111, 0), (111, .imul, 112, 0), (112, .aload_n 0, 113, 0), (113, .getfield 116, 116, 0), (116, .iload_n 1, 117, 0), (117, .iaload, 118, 0), (118, .iadd, 119, 0), (119, .iload_n 2, 120, 0), (120, .iconst 1, 121, 0), (121, .iadd, 122, 0), (122, .iastore, 123, 0), (123, .aload_n 0, 124, 0), (124, .getfield 116, 127, 0), (127, .iload_n 1, 128, 0), (128, .dup2, 129, 0), (129, .iaload, 130, 0), (130, .iconst 1, 131, 0), (131, .iadd, 132, 0), (132, .iastore, 133, 0), (133, .iinc 2 1, 136, 0), (136, .goto (-120), 139, 16), (139, .iinc 1 1, 142, 0), (142, .goto (-140), 145, 2), (145, .return_, 146, 0)]
theorem T_X12_laysRuns_ok : T_X12_laysRuns.all (rowB cX12_laysRuns) = true := by decide +kernel
def th_X12_laysRuns : List (Nat × Nat) := []
def sw_X12_laysRuns : List (Nat × (List (Int32 × Nat) × Nat)) := []
theorem sw_X12_laysRuns_ok : ∀ q ∈ sw_X12_laysRuns, swS cX12_laysRuns q := fun _ h => absurd h List.not_mem_nil
def na_X12_laysRuns : List (Nat × Nat) := [(660, 2)]
def ca_X12_laysRuns {R' : Type} (F : Nat) : List (Nat × cFn R') := [(660, n_X12_isOf (f_X12_isOf F))]
theorem ca_X12_laysRuns_ok {R' : Type} {q : cL} (hst : q.1.stackTraces = false) {D : Nat} (hD : 3 ≤ D) (F : Nat) : ∀ x ∈ (ca_X12_laysRuns (R' := R') F), 1 ≤ D ∧ ceS q RX12 (D - 1) x.1 x.2 := List.forall_mem_cons.mpr ⟨⟨by omega, n_X12_isOf_ok (k := 220) (lw_good_of (tb_ok 1375 (by decide +kernel)) rfl) (fun a0 a1 M r h => c_X12_isOf hst (by omega) F a0 a1 M r h)⟩, fun _ h => absurd h List.not_mem_nil⟩
def kd_X12_laysRuns_2 (g : Nat → Int32 → cM → Option (cM)) : cKf (cM) := fun vs st M => (lR vs 0).bind fun x0 => (lI vs 1).bind fun x1 => match st with
  | [] => g x0 x1 M
  | _ => none
theorem kf_X12_laysRuns_2 {X : cCtx} {o : cO} {r : cM} {g : Nat → Int32 → cM → Option (cM)} (hg : ∀ x0 x1 M, g x0 x1 M = some r → WX X 4 o 2 [some (.ref x0), some (.int x1), none, none] [] M) : ∀ vs st M, kd_X12_laysRuns_2 g vs st M = some r → WX X 4 o 2 vs st M := by
  intro vs st M h
  unfold kd_X12_laysRuns_2 at h
  obtain ⟨x0, h0, h⟩ := Option.bind_eq_some_iff.mp h
  obtain ⟨x1, h1, h⟩ := Option.bind_eq_some_iff.mp h
  split at h
  · exact WX_weak (hg _ _ _ h) rfl ⟨lR_of h0, lI_of h1, trivial⟩
  · cases h
def kd_X12_laysRuns_16 (g : Nat → Int32 → Int32 → cM → Option (cM)) : cKf (cM) := fun vs st M => (lR vs 0).bind fun x0 => (lI vs 1).bind fun x1 => (lI vs 2).bind fun x2 => match st with
  | [] => g x0 x1 x2 M
  | _ => none
theorem kf_X12_laysRuns_16 {X : cCtx} {o : cO} {r : cM} {g : Nat → Int32 → Int32 → cM → Option (cM)} (hg : ∀ x0 x1 x2 M, g x0 x1 x2 M = some r → WX X 4 o 16 [some (.ref x0), some (.int x1), some (.int x2), none] [] M) : ∀ vs st M, kd_X12_laysRuns_16 g vs st M = some r → WX X 4 o 16 vs st M := by
  intro vs st M h
  unfold kd_X12_laysRuns_16 at h
  obtain ⟨x0, h0, h⟩ := Option.bind_eq_some_iff.mp h
  obtain ⟨x1, h1, h⟩ := Option.bind_eq_some_iff.mp h
  obtain ⟨x2, h2, h⟩ := Option.bind_eq_some_iff.mp h
  split at h
  · exact WX_weak (hg _ _ _ _ h) rfl ⟨lR_of h0, lI_of h1, lI_of h2, trivial⟩
  · cases h
def kd_X12_laysRuns_58 (g : Nat → Int32 → Int32 → Int32 → cM → Option (cM)) : cKf (cM) := fun vs st M => (lR vs 0).bind fun x0 => (lI vs 1).bind fun x1 => (lI vs 2).bind fun x2 => (lI vs 3).bind fun x3 => match st with
  | [] => g x0 x1 x2 x3 M
  | _ => none
theorem kf_X12_laysRuns_58 {X : cCtx} {o : cO} {r : cM} {g : Nat → Int32 → Int32 → Int32 → cM → Option (cM)} (hg : ∀ x0 x1 x2 x3 M, g x0 x1 x2 x3 M = some r → WX X 4 o 58 [some (.ref x0), some (.int x1), some (.int x2), some (.int x3)] [] M) : ∀ vs st M, kd_X12_laysRuns_58 g vs st M = some r → WX X 4 o 58 vs st M := by
  intro vs st M h
  unfold kd_X12_laysRuns_58 at h
  obtain ⟨x0, h0, h⟩ := Option.bind_eq_some_iff.mp h
  obtain ⟨x1, h1, h⟩ := Option.bind_eq_some_iff.mp h
  obtain ⟨x2, h2, h⟩ := Option.bind_eq_some_iff.mp h
  obtain ⟨x3, h3, h⟩ := Option.bind_eq_some_iff.mp h
  split at h
  · exact WX_weak (hg _ _ _ _ _ h) rfl ⟨lR_of h0, lI_of h1, lI_of h2, lI_of h3, trivial⟩
  · cases h
def kd_X12_laysRuns_75 (g : Nat → Int32 → Int32 → Int32 → cM → Option (cM)) : cKf (cM) := fun vs st M => (lR vs 0).bind fun x0 => (lI vs 1).bind fun x1 => (lI vs 2).bind fun x2 => (lI vs 3).bind fun x3 => match st with
  | [] => g x0 x1 x2 x3 M
  | _ => none
theorem kf_X12_laysRuns_75 {X : cCtx} {o : cO} {r : cM} {g : Nat → Int32 → Int32 → Int32 → cM → Option (cM)} (hg : ∀ x0 x1 x2 x3 M, g x0 x1 x2 x3 M = some r → WX X 4 o 75 [some (.ref x0), some (.int x1), some (.int x2), some (.int x3)] [] M) : ∀ vs st M, kd_X12_laysRuns_75 g vs st M = some r → WX X 4 o 75 vs st M := by
  intro vs st M h
  unfold kd_X12_laysRuns_75 at h
  obtain ⟨x0, h0, h⟩ := Option.bind_eq_some_iff.mp h
  obtain ⟨x1, h1, h⟩ := Option.bind_eq_some_iff.mp h
  obtain ⟨x2, h2, h⟩ := Option.bind_eq_some_iff.mp h
  obtain ⟨x3, h3, h⟩ := Option.bind_eq_some_iff.mp h
  split at h
  · exact WX_weak (hg _ _ _ _ _ h) rfl ⟨lR_of h0, lI_of h1, lI_of h2, lI_of h3, trivial⟩
  · cases h
def kd_X12_laysRuns_104 (g : Nat → Int32 → Int32 → cM → Option (cM)) : cKf (cM) := fun vs st M => (lR vs 0).bind fun x0 => (lI vs 1).bind fun x1 => (lI vs 2).bind fun x2 => match st with
  | [] => g x0 x1 x2 M
  | _ => none
theorem kf_X12_laysRuns_104 {X : cCtx} {o : cO} {r : cM} {g : Nat → Int32 → Int32 → cM → Option (cM)} (hg : ∀ x0 x1 x2 M, g x0 x1 x2 M = some r → WX X 4 o 104 [some (.ref x0), some (.int x1), some (.int x2), none] [] M) : ∀ vs st M, kd_X12_laysRuns_104 g vs st M = some r → WX X 4 o 104 vs st M := by
  intro vs st M h
  unfold kd_X12_laysRuns_104 at h
  obtain ⟨x0, h0, h⟩ := Option.bind_eq_some_iff.mp h
  obtain ⟨x1, h1, h⟩ := Option.bind_eq_some_iff.mp h
  obtain ⟨x2, h2, h⟩ := Option.bind_eq_some_iff.mp h
  split at h
  · exact WX_weak (hg _ _ _ _ h) rfl ⟨lR_of h0, lI_of h1, lI_of h2, trivial⟩
  · cases h
set_option maxRecDepth 20000 in
theorem e_X12_laysRuns_104 (F : Nat) (t16 : Nat → Int32 → Int32 → cM → Option (cM)) (x0 : Nat) (x1 : Int32) (x2 : Int32) (M : cM) : b_X12_laysRuns_104 F t16 x0 x1 x2 M = run T_X12_laysRuns P_RX12 false 5 (naL na_X12_laysRuns) (caL (ca_X12_laysRuns F)) (lkN th_X12_laysRuns) (lkN sw_X12_laysRuns) krV kxN (spL [16]) (KL [(16, kd_X12_laysRuns_16 t16)]) 95 104 [some (.ref x0), some (.int x1), some (.int x2), none] [] M := rfl
theorem ok_X12_laysRuns_104 {X : cCtx} {D : Nat} {r : cM} (G : FX X 4 (eV r) cX12_laysRuns RX12 5 D) {F : Nat} (hca : ∀ x ∈ (ca_X12_laysRuns (R' := cM) F), 1 ≤ D ∧ ceS X.1 RX12 (D - 1) x.1 x.2) (k2 : Nat → Int32 → cM → Option (cM)) (k16 : Nat → Int32 → Int32 → cM → Option (cM)) (hk2 : ∀ x0 x1 M, k2 x0 x1 M = some r → WX X 4 (eV r) 2 [some (.ref x0), some (.int x1), none, none] [] M) (hk16 : ∀ x0 x1 x2 M, k16 x0 x1 x2 M = some r → WX X 4 (eV r) 16 [some (.ref x0), some (.int x1), some (.int x2), none] [] M) : ∀ x0 x1 x2 M, f_X12_laysRuns_104 F k2 k16 x0 x1 x2 M = some r → WX X 4 (eV r) 104 [some (.ref x0), some (.int x1), some (.int x2), none] [] M := by
  intro x0 x1 x2 M h
  exact seg_ok G P_RX12_ok T_X12_laysRuns_ok hca (fun _ h => absurd h List.not_mem_nil) sw_X12_laysRuns_ok krV_ok (kxN_ok (f := eV)) (List.forall_mem_cons.mpr ⟨kf_X12_laysRuns_16 (hk16), fun _ h => absurd h List.not_mem_nil⟩) ((e_X12_laysRuns_104 F (k16) x0 x1 x2 M).symm.trans h)
set_option maxRecDepth 20000 in
theorem e_X12_laysRuns_75 (F : Nat) (t16 : Nat → Int32 → Int32 → cM → Option (cM)) (t104 : Nat → Int32 → Int32 → cM → Option (cM)) (x0 : Nat) (x1 : Int32) (x2 : Int32) (x3 : Int32) (M : cM) : b_X12_laysRuns_75 F t16 t104 x0 x1 x2 x3 M = run T_X12_laysRuns P_RX12 false 5 (naL na_X12_laysRuns) (caL (ca_X12_laysRuns F)) (lkN th_X12_laysRuns) (lkN sw_X12_laysRuns) krV kxN (spL [16, 104]) (KL [(16, kd_X12_laysRuns_16 t16), (104, kd_X12_laysRuns_104 t104)]) 95 75 [some (.ref x0), some (.int x1), some (.int x2), some (.int x3)] [] M := rfl
theorem ok_X12_laysRuns_75 {X : cCtx} {D : Nat} {r : cM} (G : FX X 4 (eV r) cX12_laysRuns RX12 5 D) {F : Nat} (hca : ∀ x ∈ (ca_X12_laysRuns (R' := cM) F), 1 ≤ D ∧ ceS X.1 RX12 (D - 1) x.1 x.2) (k2 : Nat → Int32 → cM → Option (cM)) (k16 : Nat → Int32 → Int32 → cM → Option (cM)) (hk2 : ∀ x0 x1 M, k2 x0 x1 M = some r → WX X 4 (eV r) 2 [some (.ref x0), some (.int x1), none, none] [] M) (hk16 : ∀ x0 x1 x2 M, k16 x0 x1 x2 M = some r → WX X 4 (eV r) 16 [some (.ref x0), some (.int x1), some (.int x2), none] [] M) : ∀ x0 x1 x2 x3 M, f_X12_laysRuns_75 F k2 k16 x0 x1 x2 x3 M = some r → WX X 4 (eV r) 75 [some (.ref x0), some (.int x1), some (.int x2), some (.int x3)] [] M := by
  intro x0 x1 x2 x3 M h
  exact seg_ok G P_RX12_ok T_X12_laysRuns_ok hca (fun _ h => absurd h List.not_mem_nil) sw_X12_laysRuns_ok krV_ok (kxN_ok (f := eV)) (List.forall_mem_cons.mpr ⟨kf_X12_laysRuns_16 (hk16), List.forall_mem_cons.mpr ⟨kf_X12_laysRuns_104 (ok_X12_laysRuns_104 G hca k2 k16 hk2 hk16), fun _ h => absurd h List.not_mem_nil⟩⟩) ((e_X12_laysRuns_75 F (k16) (f_X12_laysRuns_104 F k2 k16) x0 x1 x2 x3 M).symm.trans h)
set_option maxRecDepth 20000 in
theorem e_X12_laysRuns_58 (F : Nat) (t75 : Nat → Int32 → Int32 → Int32 → cM → Option (cM)) (x0 : Nat) (x1 : Int32) (x2 : Int32) (x3 : Int32) (M : cM) : b_X12_laysRuns_58 F t75 x0 x1 x2 x3 M = run T_X12_laysRuns P_RX12 false 5 (naL na_X12_laysRuns) (caL (ca_X12_laysRuns F)) (lkN th_X12_laysRuns) (lkN sw_X12_laysRuns) krV kxN (spL [75]) (KL [(75, kd_X12_laysRuns_75 t75)]) 95 58 [some (.ref x0), some (.int x1), some (.int x2), some (.int x3)] [] M := rfl
theorem ok_X12_laysRuns_58 {X : cCtx} {D : Nat} {r : cM} (G : FX X 4 (eV r) cX12_laysRuns RX12 5 D) {F : Nat} (hca : ∀ x ∈ (ca_X12_laysRuns (R' := cM) F), 1 ≤ D ∧ ceS X.1 RX12 (D - 1) x.1 x.2) (k2 : Nat → Int32 → cM → Option (cM)) (k16 : Nat → Int32 → Int32 → cM → Option (cM)) (hk2 : ∀ x0 x1 M, k2 x0 x1 M = some r → WX X 4 (eV r) 2 [some (.ref x0), some (.int x1), none, none] [] M) (hk16 : ∀ x0 x1 x2 M, k16 x0 x1 x2 M = some r → WX X 4 (eV r) 16 [some (.ref x0), some (.int x1), some (.int x2), none] [] M) : ∀ x0 x1 x2 x3 M, f_X12_laysRuns_58 F k2 k16 x0 x1 x2 x3 M = some r → WX X 4 (eV r) 58 [some (.ref x0), some (.int x1), some (.int x2), some (.int x3)] [] M := by
  intro x0 x1 x2 x3 M h
  exact seg_ok G P_RX12_ok T_X12_laysRuns_ok hca (fun _ h => absurd h List.not_mem_nil) sw_X12_laysRuns_ok krV_ok (kxN_ok (f := eV)) (List.forall_mem_cons.mpr ⟨kf_X12_laysRuns_75 (ok_X12_laysRuns_75 G hca k2 k16 hk2 hk16), fun _ h => absurd h List.not_mem_nil⟩) ((e_X12_laysRuns_58 F (f_X12_laysRuns_75 F k2 k16) x0 x1 x2 x3 M).symm.trans h)
set_option maxRecDepth 20000 in
theorem e_X12_laysRuns_16 (F : Nat) (t2 : Nat → Int32 → cM → Option (cM)) (t58 : Nat → Int32 → Int32 → Int32 → cM → Option (cM)) (t75 : Nat → Int32 → Int32 → Int32 → cM → Option (cM)) (x0 : Nat) (x1 : Int32) (x2 : Int32) (M : cM) : b_X12_laysRuns_16 F t2 t58 t75 x0 x1 x2 M = run T_X12_laysRuns P_RX12 false 5 (naL na_X12_laysRuns) (caL (ca_X12_laysRuns F)) (lkN th_X12_laysRuns) (lkN sw_X12_laysRuns) krV kxN (spL [2, 58, 75]) (KL [(2, kd_X12_laysRuns_2 t2), (58, kd_X12_laysRuns_58 t58), (75, kd_X12_laysRuns_75 t75)]) 95 16 [some (.ref x0), some (.int x1), some (.int x2), none] [] M := rfl
theorem ok_X12_laysRuns_16 {X : cCtx} {D : Nat} {r : cM} (G : FX X 4 (eV r) cX12_laysRuns RX12 5 D) {F : Nat} (hca : ∀ x ∈ (ca_X12_laysRuns (R' := cM) F), 1 ≤ D ∧ ceS X.1 RX12 (D - 1) x.1 x.2) (k2 : Nat → Int32 → cM → Option (cM)) (hk2 : ∀ x0 x1 M, k2 x0 x1 M = some r → WX X 4 (eV r) 2 [some (.ref x0), some (.int x1), none, none] [] M) (n : Nat) : ∀ x0 x1 x2 M, f_X12_laysRuns_16 F k2 n x0 x1 x2 M = some r → WX X 4 (eV r) 16 [some (.ref x0), some (.int x1), some (.int x2), none] [] M := by
  induction n with
  | zero => intro x0 x1 x2 M h; cases h
  | succ n ih =>
    intro x0 x1 x2 M h
    exact seg_ok G P_RX12_ok T_X12_laysRuns_ok hca (fun _ h => absurd h List.not_mem_nil) sw_X12_laysRuns_ok krV_ok (kxN_ok (f := eV)) (List.forall_mem_cons.mpr ⟨kf_X12_laysRuns_2 (hk2), List.forall_mem_cons.mpr ⟨kf_X12_laysRuns_58 (ok_X12_laysRuns_58 G hca k2 (f_X12_laysRuns_16 F k2 n) hk2 ih), List.forall_mem_cons.mpr ⟨kf_X12_laysRuns_75 (ok_X12_laysRuns_75 G hca k2 (f_X12_laysRuns_16 F k2 n) hk2 ih), fun _ h => absurd h List.not_mem_nil⟩⟩⟩) ((e_X12_laysRuns_16 F (k2) (f_X12_laysRuns_58 F k2 (f_X12_laysRuns_16 F k2 n)) (f_X12_laysRuns_75 F k2 (f_X12_laysRuns_16 F k2 n)) x0 x1 x2 M).symm.trans h)
set_option maxRecDepth 20000 in
theorem e_X12_laysRuns_2 (F : Nat) (t16 : Nat → Int32 → Int32 → cM → Option (cM)) (x0 : Nat) (x1 : Int32) (M : cM) : b_X12_laysRuns_2 F t16 x0 x1 M = run T_X12_laysRuns P_RX12 false 5 (naL na_X12_laysRuns) (caL (ca_X12_laysRuns F)) (lkN th_X12_laysRuns) (lkN sw_X12_laysRuns) krV kxN (spL [16]) (KL [(16, kd_X12_laysRuns_16 t16)]) 95 2 [some (.ref x0), some (.int x1), none, none] [] M := rfl
theorem ok_X12_laysRuns_2 {X : cCtx} {D : Nat} {r : cM} (G : FX X 4 (eV r) cX12_laysRuns RX12 5 D) {F : Nat} (hca : ∀ x ∈ (ca_X12_laysRuns (R' := cM) F), 1 ≤ D ∧ ceS X.1 RX12 (D - 1) x.1 x.2) (n : Nat) : ∀ x0 x1 M, f_X12_laysRuns_2 F n x0 x1 M = some r → WX X 4 (eV r) 2 [some (.ref x0), some (.int x1), none, none] [] M := by
  induction n with
  | zero => intro x0 x1 M h; cases h
  | succ n ih =>
    intro x0 x1 M h
    exact seg_ok G P_RX12_ok T_X12_laysRuns_ok hca (fun _ h => absurd h List.not_mem_nil) sw_X12_laysRuns_ok krV_ok (kxN_ok (f := eV)) (List.forall_mem_cons.mpr ⟨kf_X12_laysRuns_16 (ok_X12_laysRuns_16 G hca (f_X12_laysRuns_2 F n) ih F), fun _ h => absurd h List.not_mem_nil⟩) ((e_X12_laysRuns_2 F (f_X12_laysRuns_16 F (f_X12_laysRuns_2 F n) F) x0 x1 M).symm.trans h)
set_option maxRecDepth 20000 in
theorem e_X12_laysRuns_0 (F : Nat) (t2 : Nat → Int32 → cM → Option (cM)) (x0 : Nat) (M : cM) : b_X12_laysRuns_0 F t2 x0 M = run T_X12_laysRuns P_RX12 false 5 (naL na_X12_laysRuns) (caL (ca_X12_laysRuns F)) (lkN th_X12_laysRuns) (lkN sw_X12_laysRuns) krV kxN (spL [2]) (KL [(2, kd_X12_laysRuns_2 t2)]) 95 0 [some (.ref x0), none, none, none] [] M := rfl
theorem ok_X12_laysRuns_0 {X : cCtx} {D : Nat} {r : cM} (G : FX X 4 (eV r) cX12_laysRuns RX12 5 D) {F : Nat} (hca : ∀ x ∈ (ca_X12_laysRuns (R' := cM) F), 1 ≤ D ∧ ceS X.1 RX12 (D - 1) x.1 x.2) : ∀ x0 M, f_X12_laysRuns_0 F x0 M = some r → WX X 4 (eV r) 0 [some (.ref x0), none, none, none] [] M := by
  intro x0 M h
  exact seg_ok G P_RX12_ok T_X12_laysRuns_ok hca (fun _ h => absurd h List.not_mem_nil) sw_X12_laysRuns_ok krV_ok (kxN_ok (f := eV)) (List.forall_mem_cons.mpr ⟨kf_X12_laysRuns_2 (ok_X12_laysRuns_2 G hca F), fun _ h => absurd h List.not_mem_nil⟩) ((e_X12_laysRuns_0 F (f_X12_laysRuns_2 F F) x0 M).symm.trans h)
theorem c_X12_laysRuns {q : cL} (hst : q.1.stackTraces = false) {D : Nat} (hD : 3 ≤ D) (F : Nat) (a0 : Nat) (M : cM) (r : cM) (h : f_X12_laysRuns F a0 M = some r) : CTx q yX12_laysRuns (.code yX12_laysRuns cX12_laysRuns 4 none) D [.ref a0] M (eV r) ∧ ∃ fs, M[a0]? = some (.inr (10, fs)) := by
  unfold f_X12_laysRuns at h
  split at h
  · next hi => exact ⟨CTx_of (own := RX12) (rk := 5) hst (by decide +kernel) rfl (rfl) (Nat.le_of_ble_eq_true rfl) (fun X hX G => by subst hX; exact ok_X12_laysRuns_0 G (ca_X12_laysRuns_ok hst hD F) a0 M h), isC_of hi⟩
  · cases h
def n_X12_laysRuns {R' : Type} (f : Nat → cM → Option (cM)) : cFn R' := fun as M κ κx => match as with
  | [.ref a0] => (f a0 M).bind fun p => κ none p
  | _ => none
theorem w_X12_laysRuns : ∀ w ∈ [Cond.instanceMethod yX12_laysRuns, .selects yX12_laysRuns.cls yX12_laysRuns yX12_laysRuns, .initialized yX12_laysRuns.cls, .code yX12_laysRuns cX12_laysRuns 4 none], w ∈ lw_good := List.forall_mem_cons.mpr ⟨lw_good_of (tb_ok 1373 (by decide +kernel)) rfl, List.forall_mem_cons.mpr ⟨lw_good_of (ts_ok 35 (by decide +kernel)) rfl, List.forall_mem_cons.mpr ⟨lw_good_of (tb_ok 11 (by decide +kernel)) rfl, List.forall_mem_cons.mpr ⟨lw_good_of (tb_ok 1374 (by decide +kernel)) rfl, fun _ h => absurd h List.not_mem_nil⟩⟩⟩⟩
theorem n_X12_laysRuns_ok {R' : Type} {q : cL} {own : String} {d k : Nat} {f : Nat → cM → Option (cM)} (hl : Cond.methodLink own k yX12_laysRuns ∈ lw_good) (hf : ∀ a0 M r, f a0 M = some r → CTx q yX12_laysRuns (.code yX12_laysRuns cX12_laysRuns 4 none) d [.ref a0] M (eV r) ∧ ∃ fs, M[a0]? = some (.inr (10, fs))) : ceS q own d (3 * k + 1) (n_X12_laysRuns (R' := R') f) := by
  intro as M κ κx r h
  unfold n_X12_laysRuns at h
  split at h
  · obtain ⟨p, h1, h2⟩ := Option.bind_eq_some_iff.mp h
    obtain ⟨hc, fs, ha⟩ := hf _ _ _ h1
    exact ⟨eV p, fun _ => h2, fun hne => absurd rfl hne, Or.inr (Or.inl ⟨yX12_laysRuns, cX12_laysRuns, 4, none, k, 0, _, _, 10, TX12, 76, fs, rfl, rfl, hc, ha, rfl, List.forall_mem_cons.mpr ⟨hl, w_X12_laysRuns⟩, ⟨rfl, by decide +kernel, by decide +kernel, by decide +kernel⟩, rfl, by decide⟩)⟩
  · cases h
-- PatchbayScriptModel.takes([III)V
def T_X12_takes : List cRow := [(0, .aload_n 0, 1, 0), (1, .iload_n 3, 2, 0), (2, .putfield 214, 5, 0), (5, .iconst 0, 6, 0), (6, .istore 4, 8, 0), (8, .iload 4, 10, 0), (10, .iload_n 3, 11, 0), (11, .if_icmp .ge 22, 14, 33), (14, .aload_n 0, 15, 0), (15, .getfield 113, 18, 0), (18, .iload 4, 20, 0), (20, .aload_n 1, 21, 0), (21, .iload_n 2, 22, 0), (22, .iload 4, 24, 0), (24, .iadd, 25, 0), (25, .iaload, 26, 0), (26, .iastore, 27, 0), (27, .iinc 4 1, 30, 0), (30, .goto (-22), 33, 8), (33, .aload_n 0, 34, 0), (34, .invokevirtual 217, 37, 0), (37, .return_, 38, 0)]
theorem T_X12_takes_ok : T_X12_takes.all (rowB cX12_takes) = true := by decide +kernel
def th_X12_takes : List (Nat × Nat) := []
def sw_X12_takes : List (Nat × (List (Int32 × Nat) × Nat)) := []
theorem sw_X12_takes_ok : ∀ q ∈ sw_X12_takes, swS cX12_takes q := fun _ h => absurd h List.not_mem_nil
def na_X12_takes : List (Nat × Nat) := [(652, 1)]
def ca_X12_takes {R' : Type} (F : Nat) : List (Nat × cFn R') := [(652, n_X12_laysRuns (f_X12_laysRuns F))]
theorem ca_X12_takes_ok {R' : Type} {q : cL} (hst : q.1.stackTraces = false) {D : Nat} (hD : 4 ≤ D) (F : Nat) : ∀ x ∈ (ca_X12_takes (R' := R') F), 1 ≤ D ∧ ceS q RX12 (D - 1) x.1 x.2 := List.forall_mem_cons.mpr ⟨⟨by omega, n_X12_laysRuns_ok (k := 217) (lw_good_of (tb_ok 1371 (by decide +kernel)) rfl) (fun a0 M r h => c_X12_laysRuns hst (by omega) F a0 M r h)⟩, fun _ h => absurd h List.not_mem_nil⟩
def kd_X12_takes_8 (g : Nat → Nat → Int32 → Int32 → Int32 → cM → Option (cM)) : cKf (cM) := fun vs st M => (lR vs 0).bind fun x0 => (lR vs 1).bind fun x1 => (lI vs 2).bind fun x2 => (lI vs 3).bind fun x3 => (lI vs 4).bind fun x4 => match st with
  | [] => g x0 x1 x2 x3 x4 M
  | _ => none
theorem kf_X12_takes_8 {X : cCtx} {o : cO} {r : cM} {g : Nat → Nat → Int32 → Int32 → Int32 → cM → Option (cM)} (hg : ∀ x0 x1 x2 x3 x4 M, g x0 x1 x2 x3 x4 M = some r → WX X 5 o 8 [some (.ref x0), some (.ref x1), some (.int x2), some (.int x3), some (.int x4)] [] M) : ∀ vs st M, kd_X12_takes_8 g vs st M = some r → WX X 5 o 8 vs st M := by
  intro vs st M h
  unfold kd_X12_takes_8 at h
  obtain ⟨x0, h0, h⟩ := Option.bind_eq_some_iff.mp h
  obtain ⟨x1, h1, h⟩ := Option.bind_eq_some_iff.mp h
  obtain ⟨x2, h2, h⟩ := Option.bind_eq_some_iff.mp h
  obtain ⟨x3, h3, h⟩ := Option.bind_eq_some_iff.mp h
  obtain ⟨x4, h4, h⟩ := Option.bind_eq_some_iff.mp h
  split at h
  · exact WX_weak (hg _ _ _ _ _ _ h) rfl ⟨lR_of h0, lR_of h1, lI_of h2, lI_of h3, lI_of h4, trivial⟩
  · cases h
set_option maxRecDepth 20000 in
theorem e_X12_takes_8 (F : Nat) (t8 : Nat → Nat → Int32 → Int32 → Int32 → cM → Option (cM)) (x0 : Nat) (x1 : Nat) (x2 : Int32) (x3 : Int32) (x4 : Int32) (M : cM) : b_X12_takes_8 F t8 x0 x1 x2 x3 x4 M = run T_X12_takes P_RX12 false 5 (naL na_X12_takes) (caL (ca_X12_takes F)) (lkN th_X12_takes) (lkN sw_X12_takes) krV kxN (spL [8]) (KL [(8, kd_X12_takes_8 t8)]) 25 8 [some (.ref x0), some (.ref x1), some (.int x2), some (.int x3), some (.int x4)] [] M := rfl
theorem ok_X12_takes_8 {X : cCtx} {D : Nat} {r : cM} (G : FX X 5 (eV r) cX12_takes RX12 5 D) {F : Nat} (hca : ∀ x ∈ (ca_X12_takes (R' := cM) F), 1 ≤ D ∧ ceS X.1 RX12 (D - 1) x.1 x.2) (n : Nat) : ∀ x0 x1 x2 x3 x4 M, f_X12_takes_8 F n x0 x1 x2 x3 x4 M = some r → WX X 5 (eV r) 8 [some (.ref x0), some (.ref x1), some (.int x2), some (.int x3), some (.int x4)] [] M := by
  induction n with
  | zero => intro x0 x1 x2 x3 x4 M h; cases h
  | succ n ih =>
    intro x0 x1 x2 x3 x4 M h
    exact seg_ok G P_RX12_ok T_X12_takes_ok hca (fun _ h => absurd h List.not_mem_nil) sw_X12_takes_ok krV_ok (kxN_ok (f := eV)) (List.forall_mem_cons.mpr ⟨kf_X12_takes_8 (ih), fun _ h => absurd h List.not_mem_nil⟩) ((e_X12_takes_8 F (f_X12_takes_8 F n) x0 x1 x2 x3 x4 M).symm.trans h)
set_option maxRecDepth 20000 in
theorem e_X12_takes_0 (F : Nat) (t8 : Nat → Nat → Int32 → Int32 → Int32 → cM → Option (cM)) (x0 : Nat) (x1 : Nat) (x2 : Int32) (x3 : Int32) (M : cM) : b_X12_takes_0 F t8 x0 x1 x2 x3 M = run T_X12_takes P_RX12 false 5 (naL na_X12_takes) (caL (ca_X12_takes F)) (lkN th_X12_takes) (lkN sw_X12_takes) krV kxN (spL [8]) (KL [(8, kd_X12_takes_8 t8)]) 25 0 [some (.ref x0), some (.ref x1), some (.int x2), some (.int x3), none] [] M := rfl
theorem ok_X12_takes_0 {X : cCtx} {D : Nat} {r : cM} (G : FX X 5 (eV r) cX12_takes RX12 5 D) {F : Nat} (hca : ∀ x ∈ (ca_X12_takes (R' := cM) F), 1 ≤ D ∧ ceS X.1 RX12 (D - 1) x.1 x.2) : ∀ x0 x1 x2 x3 M, f_X12_takes_0 F x0 x1 x2 x3 M = some r → WX X 5 (eV r) 0 [some (.ref x0), some (.ref x1), some (.int x2), some (.int x3), none] [] M := by
  intro x0 x1 x2 x3 M h
  exact seg_ok G P_RX12_ok T_X12_takes_ok hca (fun _ h => absurd h List.not_mem_nil) sw_X12_takes_ok krV_ok (kxN_ok (f := eV)) (List.forall_mem_cons.mpr ⟨kf_X12_takes_8 (ok_X12_takes_8 G hca F), fun _ h => absurd h List.not_mem_nil⟩) ((e_X12_takes_0 F (f_X12_takes_8 F F) x0 x1 x2 x3 M).symm.trans h)
theorem c_X12_takes {q : cL} (hst : q.1.stackTraces = false) {D : Nat} (hD : 4 ≤ D) (F : Nat) (a0 : Nat) (a1 : Nat) (a2 : Int32) (a3 : Int32) (M : cM) (r : cM) (h : f_X12_takes F a0 a1 a2 a3 M = some r) : CTx q yX12_takes (.code yX12_takes cX12_takes 5 none) D [.ref a0, .ref a1, .int a2, .int a3] M (eV r) ∧ ∃ fs, M[a0]? = some (.inr (10, fs)) := by
  unfold f_X12_takes at h
  split at h
  · next hi => exact ⟨CTx_of (own := RX12) (rk := 5) hst (by decide +kernel) rfl (rfl) (Nat.le_of_ble_eq_true rfl) (fun X hX G => by subst hX; exact ok_X12_takes_0 G (ca_X12_takes_ok hst hD F) a0 a1 a2 a3 M h), isC_of hi⟩
  · cases h
def n_X12_takes {R' : Type} (f : Nat → Nat → Int32 → Int32 → cM → Option (cM)) : cFn R' := fun as M κ κx => match as with
  | [.ref a0, .ref a1, .int a2, .int a3] => (f a0 a1 a2 a3 M).bind fun p => κ none p
  | _ => none
theorem w_X12_takes : ∀ w ∈ [Cond.instanceMethod yX12_takes, .selects yX12_takes.cls yX12_takes yX12_takes, .initialized yX12_takes.cls, .code yX12_takes cX12_takes 5 none], w ∈ lw_good := List.forall_mem_cons.mpr ⟨lw_good_of (tb_ok 1369 (by decide +kernel)) rfl, List.forall_mem_cons.mpr ⟨lw_good_of (ts_ok 34 (by decide +kernel)) rfl, List.forall_mem_cons.mpr ⟨lw_good_of (tb_ok 11 (by decide +kernel)) rfl, List.forall_mem_cons.mpr ⟨lw_good_of (tb_ok 1370 (by decide +kernel)) rfl, fun _ h => absurd h List.not_mem_nil⟩⟩⟩⟩
theorem n_X12_takes_ok {R' : Type} {q : cL} {own : String} {d k : Nat} {f : Nat → Nat → Int32 → Int32 → cM → Option (cM)} (hl : Cond.methodLink own k yX12_takes ∈ lw_good) (hf : ∀ a0 a1 a2 a3 M r, f a0 a1 a2 a3 M = some r → CTx q yX12_takes (.code yX12_takes cX12_takes 5 none) d [.ref a0, .ref a1, .int a2, .int a3] M (eV r) ∧ ∃ fs, M[a0]? = some (.inr (10, fs))) : ceS q own d (3 * k + 1) (n_X12_takes (R' := R') f) := by
  intro as M κ κx r h
  unfold n_X12_takes at h
  split at h
  · obtain ⟨p, h1, h2⟩ := Option.bind_eq_some_iff.mp h
    obtain ⟨hc, fs, ha⟩ := hf _ _ _ _ _ _ h1
    exact ⟨eV p, fun _ => h2, fun hne => absurd rfl hne, Or.inr (Or.inl ⟨yX12_takes, cX12_takes, 5, none, k, 3, _, _, 10, TX12, 76, fs, rfl, rfl, hc, ha, rfl, List.forall_mem_cons.mpr ⟨hl, w_X12_takes⟩, ⟨rfl, by decide +kernel, by decide +kernel, by decide +kernel⟩, rfl, by decide⟩)⟩
  · cases h
-- PatchbayScriptModel.place(I)I
def T_X12_place : List cRow := [(0, .iload_n 1, 1, 0), (1, .iconst 3, 2, 0), (2, .if_icmp .ge 17, 5, 19), (5, .iload_n 1, 6, 0), (6, .aload_n 0, 7, 0), (7, .getfield 214, 10, 0), (10, .if_icmp .gt 7, 13, 17), (13, .iload_n 1, 14, 0), (14, .goto 4, 17, 18), (17, .iconst (-1), 18, 0), (18, .ireturn, 19, 0), (19, .iload_n 1, 20, 0), (20, .bipush 6, 22, 0), (22, .if_icmp .ge 27, 25, 49), (25, .aload_n 0, 26, 0), (26, .getfield 214, 29, 0), (29, .iload_n 1, 30, 0), (30, .iconst 3, 31, 0), (31, .isub, 32, 0), (32, .isub, 33, 0), (33, .ifCond .lt 14, 36, 47), (36, .aload_n 0, 37, 0), (37, .getfield 214, 40, 0), (40, .iload_n 1, 41, 0), (41, .iconst 3, 42, 0), (42, .isub, 43, 0), (43, .isub, 44, 0), (44, .goto 4, 47, 48), (47, .iconst (-1), 48, 0), (48, .ireturn, 49, 0), (49, .iload_n 1, 50, 0), (50, .bipush 6, 52, 0), (52, .isub, 53, 0), (53, .bipush 6, 55, 0), (55, .idiv, 56, 0), (56, .istore_n 2, 57, 0), (57, .iload_n 1, 58, 0), (58, .bipush 6, 60, 0), (60, .isub, 61, 0), (61, .iconst 3, 62, 0), (62, .irem, 63, 0), (63, .istore_n 3, 64, 0), (64, .aload_n 0, 65, 0), (65, .getfield 116, 68, 0), (68, .iload_n 2, 69, 0), (69, .iaload, 70, 0), (70, .istore 4, 72, 0), (72, .iload 4, 74, 0), (74, .iload_n 3, 75, 0), (75, .iconst 1, 76, 0), (76, .if_icmp .ne 7, 79, 83), (79, .iconst 2, 80, 0), (80, .goto 4, 83, 84), (83, .iconst 1, 84, 0), (84, .if_icmp .ge 5, 87, 89), (87, .iconst (-1), 88, 0), (88, .ireturn, 89, 0), (89, .bipush 11, 91, 0), (91, .iload_n 2, 92, 0), (92, .imul, 93, 0), (93, .iload_n 3, 94, 0), (94, .iconst 2, 95, 0), (95, .if_icmp .ne 10, 98, 105), (98, .iload 4, 100, 0), (100, .iconst 1, 101, 0), (101, .isub, 102, 0), (102, .goto 4, 105, 106), (105, .iload_n 3, 106, 0), (106, .iadd, 107, 0), (107, .istore 5, 109, 0), (109, .iload_n 1, 110, 0), (110, .bipush 6, 112, 0), (112, .isub, 113, 0), (113, .bipush 6, 115, 0), (115, .irem, 116, 0), (116, .iconst 3, 117, 0), (117, .if_icmp .ge 13, 120, 130), (120, .aload_n 0, 121, 0), (121, .getfield 119, 124, 0), (124, .iload 5, 126, 0), (126, .iaload, 127, 0), (127, .goto 10, 130, 137), (130, .aload_n 0, 131, 0), (131, .getfield 122, 134, 0), (134, .iload 5, 136, 0), (136, .iaload, 137, 0), (137, .ireturn, 138, 0)]
theorem T_X12_place_ok : T_X12_place.all (rowB cX12_place) = true := by decide +kernel
def th_X12_place : List (Nat × Nat) := []
def sw_X12_place : List (Nat × (List (Int32 × Nat) × Nat)) := []
theorem sw_X12_place_ok : ∀ q ∈ sw_X12_place, swS cX12_place q := fun _ h => absurd h List.not_mem_nil
def na_X12_place : List (Nat × Nat) := []
def ca_X12_place {R' : Type} (F : Nat) : List (Nat × cFn R') := []
theorem ca_X12_place_ok {R' : Type} {q : cL} (hst : q.1.stackTraces = false) {D : Nat} (hD : 0 ≤ D) (F : Nat) : ∀ x ∈ (ca_X12_place (R' := R') F), 1 ≤ D ∧ ceS q RX12 (D - 1) x.1 x.2 := fun _ h => absurd h List.not_mem_nil
def kd_X12_place_84 (g : Nat → Int32 → Int32 → Int32 → Int32 → Int32 → Int32 → cM → Option (Int32 × cM)) : cKf (Int32 × cM) := fun vs st M => (lR vs 0).bind fun x0 => (lI vs 1).bind fun x1 => (lI vs 2).bind fun x2 => (lI vs 3).bind fun x3 => (lI vs 4).bind fun x4 => match st with
  | [.int s1, .int s0] => g x0 x1 x2 x3 x4 s0 s1 M
  | _ => none
theorem kf_X12_place_84 {X : cCtx} {o : cO} {r : Int32 × cM} {g : Nat → Int32 → Int32 → Int32 → Int32 → Int32 → Int32 → cM → Option (Int32 × cM)} (hg : ∀ x0 x1 x2 x3 x4 s0 s1 M, g x0 x1 x2 x3 x4 s0 s1 M = some r → WX X 6 o 84 [some (.ref x0), some (.int x1), some (.int x2), some (.int x3), some (.int x4), none] [.int s1, .int s0] M) : ∀ vs st M, kd_X12_place_84 g vs st M = some r → WX X 6 o 84 vs st M := by
  intro vs st M h
  unfold kd_X12_place_84 at h
  obtain ⟨x0, h0, h⟩ := Option.bind_eq_some_iff.mp h
  obtain ⟨x1, h1, h⟩ := Option.bind_eq_some_iff.mp h
  obtain ⟨x2, h2, h⟩ := Option.bind_eq_some_iff.mp h
  obtain ⟨x3, h3, h⟩ := Option.bind_eq_some_iff.mp h
  obtain ⟨x4, h4, h⟩ := Option.bind_eq_some_iff.mp h
  split at h
  · exact WX_weak (hg _ _ _ _ _ _ _ _ h) rfl ⟨lR_of h0, lI_of h1, lI_of h2, lI_of h3, lI_of h4, trivial⟩
  · cases h
def kd_X12_place_106 (g : Nat → Int32 → Int32 → Int32 → cM → Option (Int32 × cM)) : cKf (Int32 × cM) := fun vs st M => (lR vs 0).bind fun x0 => (lI vs 1).bind fun x1 => match st with
  | [.int s1, .int s0] => g x0 x1 s0 s1 M
  | _ => none
theorem kf_X12_place_106 {X : cCtx} {o : cO} {r : Int32 × cM} {g : Nat → Int32 → Int32 → Int32 → cM → Option (Int32 × cM)} (hg : ∀ x0 x1 s0 s1 M, g x0 x1 s0 s1 M = some r → WX X 6 o 106 [some (.ref x0), some (.int x1), none, none, none, none] [.int s1, .int s0] M) : ∀ vs st M, kd_X12_place_106 g vs st M = some r → WX X 6 o 106 vs st M := by
  intro vs st M h
  unfold kd_X12_place_106 at h
  obtain ⟨x0, h0, h⟩ := Option.bind_eq_some_iff.mp h
  obtain ⟨x1, h1, h⟩ := Option.bind_eq_some_iff.mp h
  split at h
  · exact WX_weak (hg _ _ _ _ _ h) rfl ⟨lR_of h0, lI_of h1, trivial⟩
  · cases h
set_option maxRecDepth 20000 in
theorem e_X12_place_106 (F : Nat) (x0 : Nat) (x1 : Int32) (s0 : Int32) (s1 : Int32) (M : cM) : b_X12_place_106 F x0 x1 s0 s1 M = run T_X12_place P_RX12 false 0 (naL na_X12_place) (caL (ca_X12_place F)) (lkN th_X12_place) (lkN sw_X12_place) krI kxN (spL []) (KL []) 90 106 [some (.ref x0), some (.int x1), none, none, none, none] [.int s1, .int s0] M := rfl
theorem ok_X12_place_106 {X : cCtx} {D : Nat} {r : Int32 × cM} (G : FX X 6 (eI r) cX12_place RX12 0 D) {F : Nat} (hca : ∀ x ∈ (ca_X12_place (R' := Int32 × cM) F), 1 ≤ D ∧ ceS X.1 RX12 (D - 1) x.1 x.2) : ∀ x0 x1 s0 s1 M, f_X12_place_106 F x0 x1 s0 s1 M = some r → WX X 6 (eI r) 106 [some (.ref x0), some (.int x1), none, none, none, none] [.int s1, .int s0] M := by
  intro x0 x1 s0 s1 M h
  exact seg_ok G P_RX12_ok T_X12_place_ok hca (fun _ h => absurd h List.not_mem_nil) sw_X12_place_ok krI_ok (kxN_ok (f := eI)) (fun _ h => absurd h List.not_mem_nil) ((e_X12_place_106 F x0 x1 s0 s1 M).symm.trans h)
set_option maxRecDepth 20000 in
theorem e_X12_place_84 (F : Nat) (t106 : Nat → Int32 → Int32 → Int32 → cM → Option (Int32 × cM)) (x0 : Nat) (x1 : Int32) (x2 : Int32) (x3 : Int32) (x4 : Int32) (s0 : Int32) (s1 : Int32) (M : cM) : b_X12_place_84 F t106 x0 x1 x2 x3 x4 s0 s1 M = run T_X12_place P_RX12 false 0 (naL na_X12_place) (caL (ca_X12_place F)) (lkN th_X12_place) (lkN sw_X12_place) krI kxN (spL [106]) (KL [(106, kd_X12_place_106 t106)]) 90 84 [some (.ref x0), some (.int x1), some (.int x2), some (.int x3), some (.int x4), none] [.int s1, .int s0] M := rfl
theorem ok_X12_place_84 {X : cCtx} {D : Nat} {r : Int32 × cM} (G : FX X 6 (eI r) cX12_place RX12 0 D) {F : Nat} (hca : ∀ x ∈ (ca_X12_place (R' := Int32 × cM) F), 1 ≤ D ∧ ceS X.1 RX12 (D - 1) x.1 x.2) : ∀ x0 x1 x2 x3 x4 s0 s1 M, f_X12_place_84 F x0 x1 x2 x3 x4 s0 s1 M = some r → WX X 6 (eI r) 84 [some (.ref x0), some (.int x1), some (.int x2), some (.int x3), some (.int x4), none] [.int s1, .int s0] M := by
  intro x0 x1 x2 x3 x4 s0 s1 M h
  exact seg_ok G P_RX12_ok T_X12_place_ok hca (fun _ h => absurd h List.not_mem_nil) sw_X12_place_ok krI_ok (kxN_ok (f := eI)) (List.forall_mem_cons.mpr ⟨kf_X12_place_106 (ok_X12_place_106 G hca), fun _ h => absurd h List.not_mem_nil⟩) ((e_X12_place_84 F (f_X12_place_106 F) x0 x1 x2 x3 x4 s0 s1 M).symm.trans h)
set_option maxRecDepth 20000 in
theorem e_X12_place_0 (F : Nat) (t84 : Nat → Int32 → Int32 → Int32 → Int32 → Int32 → Int32 → cM → Option (Int32 × cM)) (x0 : Nat) (x1 : Int32) (M : cM) : b_X12_place_0 F t84 x0 x1 M = run T_X12_place P_RX12 false 0 (naL na_X12_place) (caL (ca_X12_place F)) (lkN th_X12_place) (lkN sw_X12_place) krI kxN (spL [84]) (KL [(84, kd_X12_place_84 t84)]) 90 0 [some (.ref x0), some (.int x1), none, none, none, none] [] M := rfl
theorem ok_X12_place_0 {X : cCtx} {D : Nat} {r : Int32 × cM} (G : FX X 6 (eI r) cX12_place RX12 0 D) {F : Nat} (hca : ∀ x ∈ (ca_X12_place (R' := Int32 × cM) F), 1 ≤ D ∧ ceS X.1 RX12 (D - 1) x.1 x.2) : ∀ x0 x1 M, f_X12_place_0 F x0 x1 M = some r → WX X 6 (eI r) 0 [some (.ref x0), some (.int x1), none, none, none, none] [] M := by
  intro x0 x1 M h
  exact seg_ok G P_RX12_ok T_X12_place_ok hca (fun _ h => absurd h List.not_mem_nil) sw_X12_place_ok krI_ok (kxN_ok (f := eI)) (List.forall_mem_cons.mpr ⟨kf_X12_place_84 (ok_X12_place_84 G hca), fun _ h => absurd h List.not_mem_nil⟩) ((e_X12_place_0 F (f_X12_place_84 F) x0 x1 M).symm.trans h)
theorem c_X12_place {q : cL} (hst : q.1.stackTraces = false) {D : Nat} (hD : 0 ≤ D) (F : Nat) (a0 : Nat) (a1 : Int32) (M : cM) (r : Int32 × cM) (h : f_X12_place F a0 a1 M = some r) : CTx q yX12_place (.code yX12_place cX12_place 6 (some .int)) D [.ref a0, .int a1] M (eI r) ∧ ∃ fs, M[a0]? = some (.inr (10, fs)) := by
  unfold f_X12_place at h
  split at h
  · next hi => exact ⟨CTx_of (own := RX12) (rk := 0) hst (by decide +kernel) rfl (rfl) (Nat.le_of_ble_eq_true rfl) (fun X hX G => by subst hX; exact ok_X12_place_0 G (ca_X12_place_ok hst hD F) a0 a1 M h), isC_of hi⟩
  · cases h
def n_X12_place {R' : Type} (f : Nat → Int32 → cM → Option (Int32 × cM)) : cFn R' := fun as M κ κx => match as with
  | [.ref a0, .int a1] => (f a0 a1 M).bind fun p => κ (some (.int p.1)) p.2
  | _ => none
theorem w_X12_place : ∀ w ∈ [Cond.instanceMethod yX12_place, .selects yX12_place.cls yX12_place yX12_place, .initialized yX12_place.cls, .code yX12_place cX12_place 6 (some .int)], w ∈ lw_good := List.forall_mem_cons.mpr ⟨lw_good_of (tb_ok 1403 (by decide +kernel)) rfl, List.forall_mem_cons.mpr ⟨lw_good_of (ts_ok 41 (by decide +kernel)) rfl, List.forall_mem_cons.mpr ⟨lw_good_of (tb_ok 11 (by decide +kernel)) rfl, List.forall_mem_cons.mpr ⟨lw_good_of (tb_ok 1404 (by decide +kernel)) rfl, fun _ h => absurd h List.not_mem_nil⟩⟩⟩⟩
theorem n_X12_place_ok {R' : Type} {q : cL} {own : String} {d k : Nat} {f : Nat → Int32 → cM → Option (Int32 × cM)} (hl : Cond.methodLink own k yX12_place ∈ lw_good) (hf : ∀ a0 a1 M r, f a0 a1 M = some r → CTx q yX12_place (.code yX12_place cX12_place 6 (some .int)) d [.ref a0, .int a1] M (eI r) ∧ ∃ fs, M[a0]? = some (.inr (10, fs))) : ceS q own d (3 * k + 1) (n_X12_place (R' := R') f) := by
  intro as M κ κx r h
  unfold n_X12_place at h
  split at h
  · obtain ⟨p, h1, h2⟩ := Option.bind_eq_some_iff.mp h
    obtain ⟨hc, fs, ha⟩ := hf _ _ _ _ h1
    exact ⟨eI p, fun _ => h2, fun hne => absurd rfl hne, Or.inr (Or.inl ⟨yX12_place, cX12_place, 6, (some .int), k, 1, _, _, 10, TX12, 76, fs, rfl, rfl, hc, ha, rfl, List.forall_mem_cons.mpr ⟨hl, w_X12_place⟩, ⟨rfl, by decide +kernel, by decide +kernel, by decide +kernel⟩, rfl, by decide⟩)⟩
  · cases h
-- PatchbayScriptModel.spotWeight(I)I
def T_X12_spotWeight : List cRow := [(0, .iload_n 0, 1, 0), (1, .bipush 6, 3, 0), (3, .if_icmp .ge 11, 6, 14), (6, .iconst 3, 7, 0), (7, .iload_n 0, 8, 0), (8, .iconst 3, 9, 0), (9, .irem, 10, 0), (10, .iadd, 11, 0), (11, .goto 18, 14, 29), (14, .iload_n 0, 15, 0), (15, .bipush 6, 17, 0), (17, .isub, 18, 0), (18, .iconst 3, 19, 0), (19, .irem, 20, 0), (20, .iconst 1, 21, 0), (21, .if_icmp .ne 7, 24, 28), (24, .iconst 2, 25, 0), (25, .goto 4, 28, 29), (28, .iconst 1, 29, 0), (29, .ireturn, 30, 0)]
theorem T_X12_spotWeight_ok : T_X12_spotWeight.all (rowB cX12_spotWeight) = true := by decide +kernel
def th_X12_spotWeight : List (Nat × Nat) := []
def sw_X12_spotWeight : List (Nat × (List (Int32 × Nat) × Nat)) := []
theorem sw_X12_spotWeight_ok : ∀ q ∈ sw_X12_spotWeight, swS cX12_spotWeight q := fun _ h => absurd h List.not_mem_nil
def na_X12_spotWeight : List (Nat × Nat) := []
def ca_X12_spotWeight {R' : Type} (F : Nat) : List (Nat × cFn R') := []
theorem ca_X12_spotWeight_ok {R' : Type} {q : cL} (hst : q.1.stackTraces = false) {D : Nat} (hD : 0 ≤ D) (F : Nat) : ∀ x ∈ (ca_X12_spotWeight (R' := R') F), 1 ≤ D ∧ ceS q RX12 (D - 1) x.1 x.2 := fun _ h => absurd h List.not_mem_nil
set_option maxRecDepth 20000 in
theorem e_X12_spotWeight_0 (F : Nat) (x0 : Int32) (M : cM) : b_X12_spotWeight_0 F x0 M = run T_X12_spotWeight P_RX12 false 0 (naL na_X12_spotWeight) (caL (ca_X12_spotWeight F)) (lkN th_X12_spotWeight) (lkN sw_X12_spotWeight) krI kxN (spL []) (KL []) 23 0 [some (.int x0)] [] M := rfl
theorem ok_X12_spotWeight_0 {X : cCtx} {D : Nat} {r : Int32 × cM} (G : FX X 1 (eI r) cX12_spotWeight RX12 0 D) {F : Nat} (hca : ∀ x ∈ (ca_X12_spotWeight (R' := Int32 × cM) F), 1 ≤ D ∧ ceS X.1 RX12 (D - 1) x.1 x.2) : ∀ x0 M, f_X12_spotWeight_0 F x0 M = some r → WX X 1 (eI r) 0 [some (.int x0)] [] M := by
  intro x0 M h
  exact seg_ok G P_RX12_ok T_X12_spotWeight_ok hca (fun _ h => absurd h List.not_mem_nil) sw_X12_spotWeight_ok krI_ok (kxN_ok (f := eI)) (fun _ h => absurd h List.not_mem_nil) ((e_X12_spotWeight_0 F x0 M).symm.trans h)
theorem c_X12_spotWeight {q : cL} (hst : q.1.stackTraces = false) {D : Nat} (hD : 0 ≤ D) (F : Nat) (a0 : Int32) (M : cM) (r : Int32 × cM) (h : f_X12_spotWeight F a0 M = some r) : CTx q yX12_spotWeight (.code yX12_spotWeight cX12_spotWeight 1 (some .int)) D [.int a0] M (eI r) := by
  exact CTx_of (own := RX12) (rk := 0) hst (by decide +kernel) rfl (rfl) (Nat.le_of_ble_eq_true rfl) (fun X hX G => by subst hX; exact ok_X12_spotWeight_0 G (ca_X12_spotWeight_ok hst hD F) a0 M h)
def n_X12_spotWeight {R' : Type} (f : Int32 → cM → Option (Int32 × cM)) : cFn R' := fun as M κ κx => match as with
  | [.int a0] => (f a0 M).bind fun p => κ (some (.int p.1)) p.2
  | _ => none
theorem w_X12_spotWeight : ∀ w ∈ [Cond.static yX12_spotWeight, .initialized yX12_spotWeight.cls, .code yX12_spotWeight cX12_spotWeight 1 (some .int)], w ∈ lw_good := List.forall_mem_cons.mpr ⟨lw_good_of (tb_ok 1478 (by decide +kernel)) rfl, List.forall_mem_cons.mpr ⟨lw_good_of (tb_ok 11 (by decide +kernel)) rfl, List.forall_mem_cons.mpr ⟨lw_good_of (tb_ok 1479 (by decide +kernel)) rfl, fun _ h => absurd h List.not_mem_nil⟩⟩⟩
theorem n_X12_spotWeight_ok {R' : Type} {q : cL} {own : String} {d k : Nat} {f : Int32 → cM → Option (Int32 × cM)} (hl : Cond.methodLink own k yX12_spotWeight ∈ lw_good) (hf : ∀ a0 M r, f a0 M = some r → CTx q yX12_spotWeight (.code yX12_spotWeight cX12_spotWeight 1 (some .int)) d [.int a0] M (eI r)) : ceS q own d (3 * k) (n_X12_spotWeight (R' := R') f) := by
  intro as M κ κx r h
  unfold n_X12_spotWeight at h
  split at h
  · obtain ⟨p, h1, h2⟩ := Option.bind_eq_some_iff.mp h
    exact ⟨eI p, fun _ => h2, fun hne => absurd rfl hne, Or.inl ⟨yX12_spotWeight, cX12_spotWeight, 1, (some .int), k, 1, rfl, hf _ _ _ h1, List.forall_mem_cons.mpr ⟨hl, w_X12_spotWeight⟩, ⟨by decide +kernel, by decide +kernel, by decide +kernel⟩, rfl, by decide⟩⟩
  · cases h
-- PatchbayScriptModel.atomWeight(IIII)I
def T_X12_atomWeight : List cRow := [(0, .iload_n 0, 1, 0), (1, .ifCond .ne 11, 4, 12), (4, .iconst 4, 5, 0), (5, .iconst 3, 6, 0), (6, .iload_n 1, 7, 0), (7, .imul, 8, 0), (8, .iadd, 9, 0), (9, .goto 54, 12, 63), (12, .iload_n 0, 13, 0), (13, .iconst 1, 14, 0), (14, .if_icmp .ne 27, 17, 41), (17, .iconst 2, 18, 0), (18, .iload_n 1, 19, 0), (19, .invokestatic 224, 22, 0), (22, .iadd, 23, 0), (23, .iload_n 2, 24, 0), (24, .invokestatic 224, 27, 0), (27, .iadd, 28, 0), (28, .iload_n 3, 29, 0), (29, .ifCond .le 7, 32, 36), (32, .iconst 2, 33, 0), (33, .goto 4, 36, 37), (36, .iconst 0, 37, 0), (37, .iadd, 38, 0), (38, .goto 25, 41, 63), (41, .bipush 6, 43, 0), (43, .iload_n 2, 44, 0), (44, .ifCond .le 7, 47, 51), (47, .iconst 1, 48, 0), (48, .goto 4, 51, 52), (51, .iconst 0, 52, 0), (52, .iadd, 53, 0), (53, .iload_n 3, 54, 0), (54, .ifCond .le 7, 57, 61), (57, .iconst 1, 58, 0), (58, .goto 4, 61, 62), (61, .iconst 0, 62, 0), (62, .iadd, 63, 0), (63, .ireturn, 64, 0)]
theorem T_X12_atomWeight_ok : T_X12_atomWeight.all (rowB cX12_atomWeight) = true := by decide +kernel
def th_X12_atomWeight : List (Nat × Nat) := []
def sw_X12_atomWeight : List (Nat × (List (Int32 × Nat) × Nat)) := []
theorem sw_X12_atomWeight_ok : ∀ q ∈ sw_X12_atomWeight, swS cX12_atomWeight q := fun _ h => absurd h List.not_mem_nil
def na_X12_atomWeight : List (Nat × Nat) := [(672, 1)]
def ca_X12_atomWeight {R' : Type} (F : Nat) : List (Nat × cFn R') := [(672, n_X12_spotWeight (f_X12_spotWeight F))]
theorem ca_X12_atomWeight_ok {R' : Type} {q : cL} (hst : q.1.stackTraces = false) {D : Nat} (hD : 1 ≤ D) (F : Nat) : ∀ x ∈ (ca_X12_atomWeight (R' := R') F), 1 ≤ D ∧ ceS q RX12 (D - 1) x.1 x.2 := List.forall_mem_cons.mpr ⟨⟨by omega, n_X12_spotWeight_ok (k := 224) (lw_good_of (tb_ok 1477 (by decide +kernel)) rfl) (fun a0 M r h => c_X12_spotWeight hst (by omega) F a0 M r h)⟩, fun _ h => absurd h List.not_mem_nil⟩
def kd_X12_atomWeight_52 (g : Int32 → Int32 → Int32 → cM → Option (Int32 × cM)) : cKf (Int32 × cM) := fun vs st M => (lI vs 3).bind fun x3 => match st with
  | [.int s1, .int s0] => g x3 s0 s1 M
  | _ => none
theorem kf_X12_atomWeight_52 {X : cCtx} {o : cO} {r : Int32 × cM} {g : Int32 → Int32 → Int32 → cM → Option (Int32 × cM)} (hg : ∀ x3 s0 s1 M, g x3 s0 s1 M = some r → WX X 4 o 52 [none, none, none, some (.int x3)] [.int s1, .int s0] M) : ∀ vs st M, kd_X12_atomWeight_52 g vs st M = some r → WX X 4 o 52 vs st M := by
  intro vs st M h
  unfold kd_X12_atomWeight_52 at h
  obtain ⟨x3, h3, h⟩ := Option.bind_eq_some_iff.mp h
  split at h
  · exact WX_weak (hg _ _ _ _ h) rfl ⟨lI_of h3, trivial⟩
  · cases h
set_option maxRecDepth 20000 in
theorem e_X12_atomWeight_52 (F : Nat) (x3 : Int32) (s0 : Int32) (s1 : Int32) (M : cM) : b_X12_atomWeight_52 F x3 s0 s1 M = run T_X12_atomWeight P_RX12 false 0 (naL na_X12_atomWeight) (caL (ca_X12_atomWeight F)) (lkN th_X12_atomWeight) (lkN sw_X12_atomWeight) krI kxN (spL []) (KL []) 42 52 [none, none, none, some (.int x3)] [.int s1, .int s0] M := rfl
theorem ok_X12_atomWeight_52 {X : cCtx} {D : Nat} {r : Int32 × cM} (G : FX X 4 (eI r) cX12_atomWeight RX12 0 D) {F : Nat} (hca : ∀ x ∈ (ca_X12_atomWeight (R' := Int32 × cM) F), 1 ≤ D ∧ ceS X.1 RX12 (D - 1) x.1 x.2) : ∀ x3 s0 s1 M, f_X12_atomWeight_52 F x3 s0 s1 M = some r → WX X 4 (eI r) 52 [none, none, none, some (.int x3)] [.int s1, .int s0] M := by
  intro x3 s0 s1 M h
  exact seg_ok G P_RX12_ok T_X12_atomWeight_ok hca (fun _ h => absurd h List.not_mem_nil) sw_X12_atomWeight_ok krI_ok (kxN_ok (f := eI)) (fun _ h => absurd h List.not_mem_nil) ((e_X12_atomWeight_52 F x3 s0 s1 M).symm.trans h)
set_option maxRecDepth 20000 in
theorem e_X12_atomWeight_0 (F : Nat) (t52 : Int32 → Int32 → Int32 → cM → Option (Int32 × cM)) (x0 : Int32) (x1 : Int32) (x2 : Int32) (x3 : Int32) (M : cM) : b_X12_atomWeight_0 F t52 x0 x1 x2 x3 M = run T_X12_atomWeight P_RX12 false 0 (naL na_X12_atomWeight) (caL (ca_X12_atomWeight F)) (lkN th_X12_atomWeight) (lkN sw_X12_atomWeight) krI kxN (spL [52]) (KL [(52, kd_X12_atomWeight_52 t52)]) 42 0 [some (.int x0), some (.int x1), some (.int x2), some (.int x3)] [] M := rfl
theorem ok_X12_atomWeight_0 {X : cCtx} {D : Nat} {r : Int32 × cM} (G : FX X 4 (eI r) cX12_atomWeight RX12 0 D) {F : Nat} (hca : ∀ x ∈ (ca_X12_atomWeight (R' := Int32 × cM) F), 1 ≤ D ∧ ceS X.1 RX12 (D - 1) x.1 x.2) : ∀ x0 x1 x2 x3 M, f_X12_atomWeight_0 F x0 x1 x2 x3 M = some r → WX X 4 (eI r) 0 [some (.int x0), some (.int x1), some (.int x2), some (.int x3)] [] M := by
  intro x0 x1 x2 x3 M h
  exact seg_ok G P_RX12_ok T_X12_atomWeight_ok hca (fun _ h => absurd h List.not_mem_nil) sw_X12_atomWeight_ok krI_ok (kxN_ok (f := eI)) (List.forall_mem_cons.mpr ⟨kf_X12_atomWeight_52 (ok_X12_atomWeight_52 G hca), fun _ h => absurd h List.not_mem_nil⟩) ((e_X12_atomWeight_0 F (f_X12_atomWeight_52 F) x0 x1 x2 x3 M).symm.trans h)
theorem c_X12_atomWeight {q : cL} (hst : q.1.stackTraces = false) {D : Nat} (hD : 1 ≤ D) (F : Nat) (a0 : Int32) (a1 : Int32) (a2 : Int32) (a3 : Int32) (M : cM) (r : Int32 × cM) (h : f_X12_atomWeight F a0 a1 a2 a3 M = some r) : CTx q yX12_atomWeight (.code yX12_atomWeight cX12_atomWeight 4 (some .int)) D [.int a0, .int a1, .int a2, .int a3] M (eI r) := by
  exact CTx_of (own := RX12) (rk := 0) hst (by decide +kernel) rfl (rfl) (Nat.le_of_ble_eq_true rfl) (fun X hX G => by subst hX; exact ok_X12_atomWeight_0 G (ca_X12_atomWeight_ok hst hD F) a0 a1 a2 a3 M h)
def n_X12_atomWeight {R' : Type} (f : Int32 → Int32 → Int32 → Int32 → cM → Option (Int32 × cM)) : cFn R' := fun as M κ κx => match as with
  | [.int a0, .int a1, .int a2, .int a3] => (f a0 a1 a2 a3 M).bind fun p => κ (some (.int p.1)) p.2
  | _ => none
theorem w_X12_atomWeight : ∀ w ∈ [Cond.static yX12_atomWeight, .initialized yX12_atomWeight.cls, .code yX12_atomWeight cX12_atomWeight 4 (some .int)], w ∈ lw_good := List.forall_mem_cons.mpr ⟨lw_good_of (tb_ok 1475 (by decide +kernel)) rfl, List.forall_mem_cons.mpr ⟨lw_good_of (tb_ok 11 (by decide +kernel)) rfl, List.forall_mem_cons.mpr ⟨lw_good_of (tb_ok 1476 (by decide +kernel)) rfl, fun _ h => absurd h List.not_mem_nil⟩⟩⟩
theorem n_X12_atomWeight_ok {R' : Type} {q : cL} {own : String} {d k : Nat} {f : Int32 → Int32 → Int32 → Int32 → cM → Option (Int32 × cM)} (hl : Cond.methodLink own k yX12_atomWeight ∈ lw_good) (hf : ∀ a0 a1 a2 a3 M r, f a0 a1 a2 a3 M = some r → CTx q yX12_atomWeight (.code yX12_atomWeight cX12_atomWeight 4 (some .int)) d [.int a0, .int a1, .int a2, .int a3] M (eI r)) : ceS q own d (3 * k) (n_X12_atomWeight (R' := R') f) := by
  intro as M κ κx r h
  unfold n_X12_atomWeight at h
  split at h
  · obtain ⟨p, h1, h2⟩ := Option.bind_eq_some_iff.mp h
    exact ⟨eI p, fun _ => h2, fun hne => absurd rfl hne, Or.inl ⟨yX12_atomWeight, cX12_atomWeight, 4, (some .int), k, 4, rfl, hf _ _ _ _ _ _ h1, List.forall_mem_cons.mpr ⟨hl, w_X12_atomWeight⟩, ⟨by decide +kernel, by decide +kernel, by decide +kernel⟩, rfl, by decide⟩⟩
  · cases h
