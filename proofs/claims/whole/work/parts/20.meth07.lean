/-! METHODS, part 7 (laid by wip/whole/tools/gen.py) -/
-- PatchbayScript.stand(IZ)Z
def T_X11_stand : List cRow := [(0, .aload_n 0, 1, 0), (1, .iload_n 1, 2, 0), (2, .invokevirtual 127, 5, 0), (5, .iload_n 2, 6, 0), (6, .ifCond .eq 29, 9, 35), (9, .aload_n 0, 10, 0), (10, .getfield 21, 13, 0), (13, .iload_n 1, 14, 0), (14, .aaload, 15, 0), (15, .getfield 155, 18, 0), (18, .getfield 215, 21, 0), (21, .ifCond .ne 14, 24, 35), (24, .new 68, 27, 0), (35, .aload_n 0, 36, 0), (36, .getfield 21, 39, 0), (39, .iload_n 1, 40, 0), (40, .aaload, 41, 0), (41, .getfield 97, 44, 0), (44, .istore_n 3, 45, 0), (45, .aload_n 0, 46, 0), (46, .getfield 21, 49, 0), (49, .iload_n 1, 50, 0), (50, .aaload, 51, 0), (51, .iload_n 2, 52, 0), (52, .putfield 97, 55, 0), (55, .iload_n 3, 56, 0), (56, .ireturn, 57, 0)]
theorem T_X11_stand_ok : T_X11_stand.all (rowB cX11_stand) = true := by decide +kernel
def th_X11_stand : List (Nat × Nat) := [(24, 2)]
theorem th_X11_stand_ok {D : Nat} (hD : 6 ≤ D) : ∀ q ∈ th_X11_stand, 6 ≤ D ∧ thS RX11 cX11_stand q := List.forall_mem_cons.mpr ⟨⟨hD, ⟨68, 72, 261, "the task has learnt nothing", thk_RX11_2_72 (by decide), by decide +kernel, by decide +kernel, Or.inr ⟨by decide +kernel, by decide +kernel, by decide +kernel⟩⟩⟩, fun _ h => absurd h List.not_mem_nil⟩
def sw_X11_stand : List (Nat × (List (Int32 × Nat) × Nat)) := []
theorem sw_X11_stand_ok : ∀ q ∈ sw_X11_stand, swS cX11_stand q := fun _ h => absurd h List.not_mem_nil
def na_X11_stand : List (Nat × Nat) := [(382, 2)]
def ca_X11_stand {R' : Type} (F : Nat) : List (Nat × cFn R') := [(382, n_X11_needTask (f_X11_needTask F))]
theorem ca_X11_stand_ok {R' : Type} {q : cL} (hst : q.1.stackTraces = false) {D : Nat} (hD : 7 ≤ D) (F : Nat) : ∀ x ∈ (ca_X11_stand (R' := R') F), 1 ≤ D ∧ ceS q RX11 (D - 1) x.1 x.2 := List.forall_mem_cons.mpr ⟨⟨by omega, n_X11_needTask_ok (k := 127) (ml_ok RX11 127 yX11_needTask (by decide +kernel)) (fun a0 a1 M r h => c_X11_needTask hst (by omega) F a0 a1 M r h)⟩, fun _ h => absurd h List.not_mem_nil⟩
def kd_X11_stand_35 (g : Nat → Int32 → Int32 → cM → Option (Nat × Int32 × cM)) : cKf (Nat × Int32 × cM) := fun vs st M => (lR vs 0).bind fun x0 => (lI vs 1).bind fun x1 => (lI vs 2).bind fun x2 => match st with
  | [] => g x0 x1 x2 M
  | _ => none
theorem kf_X11_stand_35 {X : cCtx} {o : cO} {r : Nat × Int32 × cM} {g : Nat → Int32 → Int32 → cM → Option (Nat × Int32 × cM)} (hg : ∀ x0 x1 x2 M, g x0 x1 x2 M = some r → WX X 4 o 35 [some (.ref x0), some (.int x1), some (.int x2), none] [] M) : ∀ vs st M, kd_X11_stand_35 g vs st M = some r → WX X 4 o 35 vs st M := by
  intro vs st M h
  unfold kd_X11_stand_35 at h
  obtain ⟨x0, h0, h⟩ := Option.bind_eq_some_iff.mp h
  obtain ⟨x1, h1, h⟩ := Option.bind_eq_some_iff.mp h
  obtain ⟨x2, h2, h⟩ := Option.bind_eq_some_iff.mp h
  split at h
  · exact WX_weak (hg _ _ _ _ h) rfl ⟨lR_of h0, lI_of h1, lI_of h2, trivial⟩
  · cases h
def f_X11_stand_35 (F : Nat) : Nat → Int32 → Int32 → cM → Option (Nat × Int32 × cM) := fun x0 x1 x2 M =>
  (fR M x0 9 2).bind fun v1 =>
  (aR M v1 x1).bind fun v2 =>
  (fI M v2 7 9).bind fun v3 =>
  (fR M x0 9 2).bind fun v4 =>
  (aR M v4 x1).bind fun v5 =>
  if x2 = 0 ∨ x2 = 1 then (
  (pF M v5 7 9 (.int x2)).bind fun M6 =>
  if v3 = 0 ∨ v3 = 1 then some (0, v3, M6) else none)
  else none
set_option maxRecDepth 100000 in
theorem e_X11_stand_35 (F : Nat) (x0 : Nat) (x1 : Int32) (x2 : Int32) (M : cM) : f_X11_stand_35 F x0 x1 x2 M = run T_X11_stand P_RX11 false 1 (naL na_X11_stand) (caL (ca_X11_stand F)) (lkN th_X11_stand) (lkN sw_X11_stand) krTI kxTI (spL []) (KL []) 30 35 [some (.ref x0), some (.int x1), some (.int x2), none] [] M := rfl
theorem ok_X11_stand_35 {X : cCtx} {D : Nat} {r : Nat × Int32 × cM} (G : FX X 4 (eTI r) cX11_stand RX11 1 D) (h6 : 6 ≤ D) {F : Nat} (hca : ∀ x ∈ (ca_X11_stand (R' := Nat × Int32 × cM) F), 1 ≤ D ∧ ceS X.1 RX11 (D - 1) x.1 x.2) : ∀ x0 x1 x2 M, f_X11_stand_35 F x0 x1 x2 M = some r → WX X 4 (eTI r) 35 [some (.ref x0), some (.int x1), some (.int x2), none] [] M := by
  intro x0 x1 x2 M h
  exact seg_ok G P_RX11_ok T_X11_stand_ok hca (th_X11_stand_ok h6) sw_X11_stand_ok krTI_ok kxTI_ok (fun _ h => absurd h List.not_mem_nil) ((e_X11_stand_35 F x0 x1 x2 M).symm.trans h)
def f_X11_stand_0 (F : Nat) : Nat → Int32 → Int32 → cM → Option (Nat × Int32 × cM) := fun x0 x1 x2 M =>
  (f_X11_needTask F x0 x1 M).bind fun v1 =>
  if v1.1 = 0 then (
  if x2 = 0 then (
  f_X11_stand_35 F x0 x1 x2 v1.2)
  else (
  (fR v1.2 x0 9 2).bind fun v2 =>
  (aR v1.2 v2 x1).bind fun v3 =>
  (fR v1.2 v3 7 8).bind fun v4 =>
  (fI v1.2 v4 3 2).bind fun v5 =>
  if v5 = 0 then (
  kxTI 2 v1.2)
  else (
  f_X11_stand_35 F x0 x1 x2 v1.2)))
  else kxTI v1.1 v1.2
set_option maxRecDepth 100000 in
theorem e_X11_stand_0 (F : Nat) (x0 : Nat) (x1 : Int32) (x2 : Int32) (M : cM) : f_X11_stand_0 F x0 x1 x2 M = run T_X11_stand P_RX11 false 1 (naL na_X11_stand) (caL (ca_X11_stand F)) (lkN th_X11_stand) (lkN sw_X11_stand) krTI kxTI (spL [35]) (KL [(35, kd_X11_stand_35 (f_X11_stand_35 F))]) 30 0 [some (.ref x0), some (.int x1), some (.int x2), none] [] M := rfl
theorem ok_X11_stand_0 {X : cCtx} {D : Nat} {r : Nat × Int32 × cM} (G : FX X 4 (eTI r) cX11_stand RX11 1 D) (h6 : 6 ≤ D) {F : Nat} (hca : ∀ x ∈ (ca_X11_stand (R' := Nat × Int32 × cM) F), 1 ≤ D ∧ ceS X.1 RX11 (D - 1) x.1 x.2) : ∀ x0 x1 x2 M, f_X11_stand_0 F x0 x1 x2 M = some r → WX X 4 (eTI r) 0 [some (.ref x0), some (.int x1), some (.int x2), none] [] M := by
  intro x0 x1 x2 M h
  exact seg_ok G P_RX11_ok T_X11_stand_ok hca (th_X11_stand_ok h6) sw_X11_stand_ok krTI_ok kxTI_ok (List.forall_mem_cons.mpr ⟨kf_X11_stand_35 (ok_X11_stand_35 G h6 hca), fun _ h => absurd h List.not_mem_nil⟩) ((e_X11_stand_0 F x0 x1 x2 M).symm.trans h)
def f_X11_stand (F : Nat) : Nat → Int32 → Int32 → cM → Option (Nat × Int32 × cM) := fun a0 a1 a2 M => if isC M a0 9 = true then f_X11_stand_0 F a0 a1 a2 M else none
theorem c_X11_stand {q : cL} (hst : q.1.stackTraces = false) {D : Nat} (hD : 7 ≤ D) (F : Nat) (a0 : Nat) (a1 : Int32) (a2 : Int32) (M : cM) (r : Nat × Int32 × cM) (h : f_X11_stand F a0 a1 a2 M = some r) : CTx q yX11_stand (.code yX11_stand cX11_stand 4 (some .boolean)) D [.ref a0, .int a1, .int a2] M (eTI r) ∧ ∃ fs, M[a0]? = some (.inr (9, fs)) := by
  unfold f_X11_stand at h
  split at h
  · next hi => exact ⟨CTx_of (own := RX11) (rk := 1) hst (by decide +kernel) rfl (rfl) (Nat.le_of_ble_eq_true rfl) (fun X hX G => by subst hX; exact ok_X11_stand_0 G (by omega) (ca_X11_stand_ok hst hD F) a0 a1 a2 M h), isC_of hi⟩
  · cases h
-- PatchbayScript.asked()I
def T_X11_asked : List cRow := [(0, .aload_n 0, 1, 0), (1, .getfield 272, 4, 0), (4, .istore_n 1, 5, 0), (5, .aload_n 0, 6, 0), (6, .iconst 0, 7, 0), (7, .putfield 272, 10, 0), (10, .iload_n 1, 11, 0), (11, .ireturn, 12, 0)]
theorem T_X11_asked_ok : T_X11_asked.all (rowB cX11_asked) = true := by decide +kernel
def th_X11_asked : List (Nat × Nat) := []
def sw_X11_asked : List (Nat × (List (Int32 × Nat) × Nat)) := []
theorem sw_X11_asked_ok : ∀ q ∈ sw_X11_asked, swS cX11_asked q := fun _ h => absurd h List.not_mem_nil
def na_X11_asked : List (Nat × Nat) := []
def ca_X11_asked {R' : Type} (F : Nat) : List (Nat × cFn R') := []
theorem ca_X11_asked_ok {R' : Type} {q : cL} (hst : q.1.stackTraces = false) {D : Nat} (hD : 0 ≤ D) (F : Nat) : ∀ x ∈ (ca_X11_asked (R' := R') F), 1 ≤ D ∧ ceS q RX11 (D - 1) x.1 x.2 := fun _ h => absurd h List.not_mem_nil
def f_X11_asked_0 (F : Nat) : Nat → cM → Option (Int32 × cM) := fun x0 M =>
  (fI M x0 9 9).bind fun v1 =>
  (pF M x0 9 9 (.int (0 : Int32))).bind fun M2 =>
  some (v1, M2)
set_option maxRecDepth 100000 in
theorem e_X11_asked_0 (F : Nat) (x0 : Nat) (M : cM) : f_X11_asked_0 F x0 M = run T_X11_asked P_RX11 false 0 (naL na_X11_asked) (caL (ca_X11_asked F)) (lkN th_X11_asked) (lkN sw_X11_asked) krI kxN (spL []) (KL []) 11 0 [some (.ref x0), none] [] M := rfl
theorem ok_X11_asked_0 {X : cCtx} {D : Nat} {r : Int32 × cM} (G : FX X 2 (eI r) cX11_asked RX11 0 D) {F : Nat} (hca : ∀ x ∈ (ca_X11_asked (R' := Int32 × cM) F), 1 ≤ D ∧ ceS X.1 RX11 (D - 1) x.1 x.2) : ∀ x0 M, f_X11_asked_0 F x0 M = some r → WX X 2 (eI r) 0 [some (.ref x0), none] [] M := by
  intro x0 M h
  exact seg_ok G P_RX11_ok T_X11_asked_ok hca (fun _ h => absurd h List.not_mem_nil) sw_X11_asked_ok krI_ok (kxN_ok (f := eI)) (fun _ h => absurd h List.not_mem_nil) ((e_X11_asked_0 F x0 M).symm.trans h)
def f_X11_asked (F : Nat) : Nat → cM → Option (Int32 × cM) := fun a0 M => if isC M a0 9 = true then f_X11_asked_0 F a0 M else none
theorem c_X11_asked {q : cL} (hst : q.1.stackTraces = false) {D : Nat} (hD : 0 ≤ D) (F : Nat) (a0 : Nat) (M : cM) (r : Int32 × cM) (h : f_X11_asked F a0 M = some r) : CTx q yX11_asked (.code yX11_asked cX11_asked 2 (some .int)) D [.ref a0] M (eI r) ∧ ∃ fs, M[a0]? = some (.inr (9, fs)) := by
  unfold f_X11_asked at h
  split at h
  · next hi => exact ⟨CTx_of (own := RX11) (rk := 0) hst (by decide +kernel) rfl (rfl) (Nat.le_of_ble_eq_true rfl) (fun X hX G => by subst hX; exact ok_X11_asked_0 G (ca_X11_asked_ok hst hD F) a0 M h), isC_of hi⟩
  · cases h
-- PatchbayScriptModel.thrown()I
def T_X12_thrown : List cRow := [(0, .aload_n 0, 1, 0), (1, .getfield 196, 4, 0), (4, .ireturn, 5, 0)]
theorem T_X12_thrown_ok : T_X12_thrown.all (rowB cX12_thrown) = true := by decide +kernel
def th_X12_thrown : List (Nat × Nat) := []
def sw_X12_thrown : List (Nat × (List (Int32 × Nat) × Nat)) := []
theorem sw_X12_thrown_ok : ∀ q ∈ sw_X12_thrown, swS cX12_thrown q := fun _ h => absurd h List.not_mem_nil
def na_X12_thrown : List (Nat × Nat) := []
def ca_X12_thrown {R' : Type} (F : Nat) : List (Nat × cFn R') := []
theorem ca_X12_thrown_ok {R' : Type} {q : cL} (hst : q.1.stackTraces = false) {D : Nat} (hD : 0 ≤ D) (F : Nat) : ∀ x ∈ (ca_X12_thrown (R' := R') F), 1 ≤ D ∧ ceS q RX12 (D - 1) x.1 x.2 := fun _ h => absurd h List.not_mem_nil
def f_X12_thrown_0 (F : Nat) : Nat → cM → Option (Int32 × cM) := fun x0 M =>
  (fI M x0 10 0).bind fun v1 =>
  some (v1, M)
set_option maxRecDepth 100000 in
theorem e_X12_thrown_0 (F : Nat) (x0 : Nat) (M : cM) : f_X12_thrown_0 F x0 M = run T_X12_thrown P_RX12 false 0 (naL na_X12_thrown) (caL (ca_X12_thrown F)) (lkN th_X12_thrown) (lkN sw_X12_thrown) krI kxN (spL []) (KL []) 6 0 [some (.ref x0)] [] M := rfl
theorem ok_X12_thrown_0 {X : cCtx} {D : Nat} {r : Int32 × cM} (G : FX X 1 (eI r) cX12_thrown RX12 0 D) {F : Nat} (hca : ∀ x ∈ (ca_X12_thrown (R' := Int32 × cM) F), 1 ≤ D ∧ ceS X.1 RX12 (D - 1) x.1 x.2) : ∀ x0 M, f_X12_thrown_0 F x0 M = some r → WX X 1 (eI r) 0 [some (.ref x0)] [] M := by
  intro x0 M h
  exact seg_ok G P_RX12_ok T_X12_thrown_ok hca (fun _ h => absurd h List.not_mem_nil) sw_X12_thrown_ok krI_ok (kxN_ok (f := eI)) (fun _ h => absurd h List.not_mem_nil) ((e_X12_thrown_0 F x0 M).symm.trans h)
def f_X12_thrown (F : Nat) : Nat → cM → Option (Int32 × cM) := fun a0 M => if isC M a0 10 = true then f_X12_thrown_0 F a0 M else none
theorem c_X12_thrown {q : cL} (hst : q.1.stackTraces = false) {D : Nat} (hD : 0 ≤ D) (F : Nat) (a0 : Nat) (M : cM) (r : Int32 × cM) (h : f_X12_thrown F a0 M = some r) : CTx q yX12_thrown (.code yX12_thrown cX12_thrown 1 (some .int)) D [.ref a0] M (eI r) ∧ ∃ fs, M[a0]? = some (.inr (10, fs)) := by
  unfold f_X12_thrown at h
  split at h
  · next hi => exact ⟨CTx_of (own := RX12) (rk := 0) hst (by decide +kernel) rfl (rfl) (Nat.le_of_ble_eq_true rfl) (fun X hX G => by subst hX; exact ok_X12_thrown_0 G (ca_X12_thrown_ok hst hD F) a0 M h), isC_of hi⟩
  · cases h
-- PatchbayScriptModel.fails(I)I
def T_X12_fails : List cRow := [(0, .aload_n 0, 1, 0), (1, .iload_n 1, 2, 0), (2, .putfield 196, 5, 0), (5, .iconst 0, 6, 0), (6, .ireturn, 7, 0)]
theorem T_X12_fails_ok : T_X12_fails.all (rowB cX12_fails) = true := by decide +kernel
def th_X12_fails : List (Nat × Nat) := []
def sw_X12_fails : List (Nat × (List (Int32 × Nat) × Nat)) := []
theorem sw_X12_fails_ok : ∀ q ∈ sw_X12_fails, swS cX12_fails q := fun _ h => absurd h List.not_mem_nil
def na_X12_fails : List (Nat × Nat) := []
def ca_X12_fails {R' : Type} (F : Nat) : List (Nat × cFn R') := []
theorem ca_X12_fails_ok {R' : Type} {q : cL} (hst : q.1.stackTraces = false) {D : Nat} (hD : 0 ≤ D) (F : Nat) : ∀ x ∈ (ca_X12_fails (R' := R') F), 1 ≤ D ∧ ceS q RX12 (D - 1) x.1 x.2 := fun _ h => absurd h List.not_mem_nil
def f_X12_fails_0 (F : Nat) : Nat → Int32 → cM → Option (Int32 × cM) := fun x0 x1 M =>
  (pF M x0 10 0 (.int x1)).bind fun M1 =>
  some ((0 : Int32), M1)
set_option maxRecDepth 100000 in
theorem e_X12_fails_0 (F : Nat) (x0 : Nat) (x1 : Int32) (M : cM) : f_X12_fails_0 F x0 x1 M = run T_X12_fails P_RX12 false 0 (naL na_X12_fails) (caL (ca_X12_fails F)) (lkN th_X12_fails) (lkN sw_X12_fails) krI kxN (spL []) (KL []) 8 0 [some (.ref x0), some (.int x1)] [] M := rfl
theorem ok_X12_fails_0 {X : cCtx} {D : Nat} {r : Int32 × cM} (G : FX X 2 (eI r) cX12_fails RX12 0 D) {F : Nat} (hca : ∀ x ∈ (ca_X12_fails (R' := Int32 × cM) F), 1 ≤ D ∧ ceS X.1 RX12 (D - 1) x.1 x.2) : ∀ x0 x1 M, f_X12_fails_0 F x0 x1 M = some r → WX X 2 (eI r) 0 [some (.ref x0), some (.int x1)] [] M := by
  intro x0 x1 M h
  exact seg_ok G P_RX12_ok T_X12_fails_ok hca (fun _ h => absurd h List.not_mem_nil) sw_X12_fails_ok krI_ok (kxN_ok (f := eI)) (fun _ h => absurd h List.not_mem_nil) ((e_X12_fails_0 F x0 x1 M).symm.trans h)
def f_X12_fails (F : Nat) : Nat → Int32 → cM → Option (Int32 × cM) := fun a0 a1 M => if isC M a0 10 = true then f_X12_fails_0 F a0 a1 M else none
theorem c_X12_fails {q : cL} (hst : q.1.stackTraces = false) {D : Nat} (hD : 0 ≤ D) (F : Nat) (a0 : Nat) (a1 : Int32) (M : cM) (r : Int32 × cM) (h : f_X12_fails F a0 a1 M = some r) : CTx q yX12_fails (.code yX12_fails cX12_fails 2 (some .int)) D [.ref a0, .int a1] M (eI r) ∧ ∃ fs, M[a0]? = some (.inr (10, fs)) := by
  unfold f_X12_fails at h
  split at h
  · next hi => exact ⟨CTx_of (own := RX12) (rk := 0) hst (by decide +kernel) rfl (rfl) (Nat.le_of_ble_eq_true rfl) (fun X hX G => by subst hX; exact ok_X12_fails_0 G (ca_X12_fails_ok hst hD F) a0 a1 M h), isC_of hi⟩
  · cases h
def n_X12_fails {R' : Type} (f : Nat → Int32 → cM → Option (Int32 × cM)) : cFn R' := fun as M κ κx => match as with
  | [.ref a0, .int a1] => (f a0 a1 M).bind fun p => κ (some (.int p.1)) p.2
  | _ => none
theorem w_X12_fails : ∀ w ∈ [Cond.instanceMethod yX12_fails, .selects yX12_fails.cls yX12_fails yX12_fails, .initialized yX12_fails.cls, .code yX12_fails cX12_fails 2 (some .int)], w ∈ lw_good := wl_ok (by decide +kernel)
theorem n_X12_fails_ok {R' : Type} {q : cL} {own : String} {d k : Nat} {f : Nat → Int32 → cM → Option (Int32 × cM)} (hl : Cond.methodLink own k yX12_fails ∈ lw_good) (hf : ∀ a0 a1 M r, f a0 a1 M = some r → CTx q yX12_fails (.code yX12_fails cX12_fails 2 (some .int)) d [.ref a0, .int a1] M (eI r) ∧ ∃ fs, M[a0]? = some (.inr (10, fs))) : ceS q own d (3 * k + 1) (n_X12_fails (R' := R') f) := by
  intro as M κ κx r h
  unfold n_X12_fails at h
  split at h
  · obtain ⟨p, h1, h2⟩ := Option.bind_eq_some_iff.mp h
    obtain ⟨hc, fs, ha⟩ := hf _ _ _ _ h1
    exact ⟨eI p, fun _ => h2, fun hne => absurd rfl hne, Or.inr ⟨yX12_fails, cX12_fails, 2, (some .int), k, 1, _, _, 10, TX12, 76, fs, rfl, rfl, hc, ha, rfl, List.forall_mem_cons.mpr ⟨hl, w_X12_fails⟩, ⟨rfl, by decide +kernel, by decide +kernel, by decide +kernel⟩, rfl, by decide⟩⟩
  · cases h
-- PatchbayScriptModel.isIn(III)Z
def T_X12_isIn : List cRow := [(0, .iload_n 0, 1, 0), (1, .iload_n 1, 2, 0), (2, .if_icmp .lt 12, 5, 14), (5, .iload_n 0, 6, 0), (6, .iload_n 2, 7, 0), (7, .if_icmp .gt 7, 10, 14), (10, .iconst 1, 11, 0), (11, .goto 4, 14, 15), (14, .iconst 0, 15, 0), (15, .ireturn, 16, 0)]
theorem T_X12_isIn_ok : T_X12_isIn.all (rowB cX12_isIn) = true := by decide +kernel
def th_X12_isIn : List (Nat × Nat) := []
def sw_X12_isIn : List (Nat × (List (Int32 × Nat) × Nat)) := []
theorem sw_X12_isIn_ok : ∀ q ∈ sw_X12_isIn, swS cX12_isIn q := fun _ h => absurd h List.not_mem_nil
def na_X12_isIn : List (Nat × Nat) := []
def ca_X12_isIn {R' : Type} (F : Nat) : List (Nat × cFn R') := []
theorem ca_X12_isIn_ok {R' : Type} {q : cL} (hst : q.1.stackTraces = false) {D : Nat} (hD : 0 ≤ D) (F : Nat) : ∀ x ∈ (ca_X12_isIn (R' := R') F), 1 ≤ D ∧ ceS q RX12 (D - 1) x.1 x.2 := fun _ h => absurd h List.not_mem_nil
def f_X12_isIn_0 (F : Nat) : Int32 → Int32 → Int32 → cM → Option (Int32 × cM) := fun x0 x1 x2 M =>
  if x0 < x1 then (
  some ((0 : Int32), M))
  else (
  if x2 < x0 then (
  some ((0 : Int32), M))
  else (
  some ((1 : Int32), M)))
set_option maxRecDepth 100000 in
theorem e_X12_isIn_0 (F : Nat) (x0 : Int32) (x1 : Int32) (x2 : Int32) (M : cM) : f_X12_isIn_0 F x0 x1 x2 M = run T_X12_isIn P_RX12 false 1 (naL na_X12_isIn) (caL (ca_X12_isIn F)) (lkN th_X12_isIn) (lkN sw_X12_isIn) krI kxN (spL []) (KL []) 13 0 [some (.int x0), some (.int x1), some (.int x2)] [] M := rfl
theorem ok_X12_isIn_0 {X : cCtx} {D : Nat} {r : Int32 × cM} (G : FX X 3 (eI r) cX12_isIn RX12 1 D) {F : Nat} (hca : ∀ x ∈ (ca_X12_isIn (R' := Int32 × cM) F), 1 ≤ D ∧ ceS X.1 RX12 (D - 1) x.1 x.2) : ∀ x0 x1 x2 M, f_X12_isIn_0 F x0 x1 x2 M = some r → WX X 3 (eI r) 0 [some (.int x0), some (.int x1), some (.int x2)] [] M := by
  intro x0 x1 x2 M h
  exact seg_ok G P_RX12_ok T_X12_isIn_ok hca (fun _ h => absurd h List.not_mem_nil) sw_X12_isIn_ok krI_ok (kxN_ok (f := eI)) (fun _ h => absurd h List.not_mem_nil) ((e_X12_isIn_0 F x0 x1 x2 M).symm.trans h)
def f_X12_isIn (F : Nat) : Int32 → Int32 → Int32 → cM → Option (Int32 × cM) := fun a0 a1 a2 M => f_X12_isIn_0 F a0 a1 a2 M
theorem c_X12_isIn {q : cL} (hst : q.1.stackTraces = false) {D : Nat} (hD : 0 ≤ D) (F : Nat) (a0 : Int32) (a1 : Int32) (a2 : Int32) (M : cM) (r : Int32 × cM) (h : f_X12_isIn F a0 a1 a2 M = some r) : CTx q yX12_isIn (.code yX12_isIn cX12_isIn 3 (some .boolean)) D [.int a0, .int a1, .int a2] M (eI r) := by
  exact CTx_of (own := RX12) (rk := 1) hst (by decide +kernel) rfl (rfl) (Nat.le_of_ble_eq_true rfl) (fun X hX G => by subst hX; exact ok_X12_isIn_0 G (ca_X12_isIn_ok hst hD F) a0 a1 a2 M h)
def n_X12_isIn {R' : Type} (f : Int32 → Int32 → Int32 → cM → Option (Int32 × cM)) : cFn R' := fun as M κ κx => match as with
  | [.int a0, .int a1, .int a2] => (f a0 a1 a2 M).bind fun p => κ (some (.int p.1)) p.2
  | _ => none
theorem w_X12_isIn : ∀ w ∈ [Cond.static yX12_isIn, .initialized yX12_isIn.cls, .code yX12_isIn cX12_isIn 3 (some .boolean)], w ∈ lw_good := wl_ok (by decide +kernel)
theorem n_X12_isIn_ok {R' : Type} {q : cL} {own : String} {d k : Nat} {f : Int32 → Int32 → Int32 → cM → Option (Int32 × cM)} (hl : Cond.methodLink own k yX12_isIn ∈ lw_good) (hf : ∀ a0 a1 a2 M r, f a0 a1 a2 M = some r → CTx q yX12_isIn (.code yX12_isIn cX12_isIn 3 (some .boolean)) d [.int a0, .int a1, .int a2] M (eI r)) : ceS q own d (3 * k) (n_X12_isIn (R' := R') f) := by
  intro as M κ κx r h
  unfold n_X12_isIn at h
  split at h
  · obtain ⟨p, h1, h2⟩ := Option.bind_eq_some_iff.mp h
    exact ⟨eI p, fun _ => h2, fun hne => absurd rfl hne, Or.inl ⟨yX12_isIn, cX12_isIn, 3, (some .boolean), k, 3, rfl, hf _ _ _ _ _ h1, List.forall_mem_cons.mpr ⟨hl, w_X12_isIn⟩, ⟨by decide +kernel, by decide +kernel, by decide +kernel⟩, rfl, by decide⟩⟩
  · cases h
-- PatchbayScriptModel.isTask(I)Z
def T_X12_isTask : List cRow := [(0, .iload_n 0, 1, 0), (1, .iconst 0, 2, 0), (2, .iconst 2, 3, 0), (3, .invokestatic 200, 6, 0), (6, .ireturn, 7, 0)]
theorem T_X12_isTask_ok : T_X12_isTask.all (rowB cX12_isTask) = true := by decide +kernel
def th_X12_isTask : List (Nat × Nat) := []
def sw_X12_isTask : List (Nat × (List (Int32 × Nat) × Nat)) := []
theorem sw_X12_isTask_ok : ∀ q ∈ sw_X12_isTask, swS cX12_isTask q := fun _ h => absurd h List.not_mem_nil
def na_X12_isTask : List (Nat × Nat) := [(600, 3)]
def ca_X12_isTask {R' : Type} (F : Nat) : List (Nat × cFn R') := [(600, n_X12_isIn (f_X12_isIn F))]
theorem ca_X12_isTask_ok {R' : Type} {q : cL} (hst : q.1.stackTraces = false) {D : Nat} (hD : 1 ≤ D) (F : Nat) : ∀ x ∈ (ca_X12_isTask (R' := R') F), 1 ≤ D ∧ ceS q RX12 (D - 1) x.1 x.2 := List.forall_mem_cons.mpr ⟨⟨by omega, n_X12_isIn_ok (k := 200) (ml_ok RX12 200 yX12_isIn (by decide +kernel)) (fun a0 a1 a2 M r h => c_X12_isIn hst (by omega) F a0 a1 a2 M r h)⟩, fun _ h => absurd h List.not_mem_nil⟩
def f_X12_isTask_0 (F : Nat) : Int32 → cM → Option (Int32 × cM) := fun x0 M =>
  (f_X12_isIn F x0 (0 : Int32) (2 : Int32) M).bind fun v1 =>
  if v1.1 = 0 ∨ v1.1 = 1 then some (v1.1, v1.2) else none
set_option maxRecDepth 100000 in
theorem e_X12_isTask_0 (F : Nat) (x0 : Int32) (M : cM) : f_X12_isTask_0 F x0 M = run T_X12_isTask P_RX12 false 1 (naL na_X12_isTask) (caL (ca_X12_isTask F)) (lkN th_X12_isTask) (lkN sw_X12_isTask) krI kxN (spL []) (KL []) 8 0 [some (.int x0)] [] M := rfl
theorem ok_X12_isTask_0 {X : cCtx} {D : Nat} {r : Int32 × cM} (G : FX X 1 (eI r) cX12_isTask RX12 1 D) {F : Nat} (hca : ∀ x ∈ (ca_X12_isTask (R' := Int32 × cM) F), 1 ≤ D ∧ ceS X.1 RX12 (D - 1) x.1 x.2) : ∀ x0 M, f_X12_isTask_0 F x0 M = some r → WX X 1 (eI r) 0 [some (.int x0)] [] M := by
  intro x0 M h
  exact seg_ok G P_RX12_ok T_X12_isTask_ok hca (fun _ h => absurd h List.not_mem_nil) sw_X12_isTask_ok krI_ok (kxN_ok (f := eI)) (fun _ h => absurd h List.not_mem_nil) ((e_X12_isTask_0 F x0 M).symm.trans h)
def f_X12_isTask (F : Nat) : Int32 → cM → Option (Int32 × cM) := fun a0 M => f_X12_isTask_0 F a0 M
theorem c_X12_isTask {q : cL} (hst : q.1.stackTraces = false) {D : Nat} (hD : 1 ≤ D) (F : Nat) (a0 : Int32) (M : cM) (r : Int32 × cM) (h : f_X12_isTask F a0 M = some r) : CTx q yX12_isTask (.code yX12_isTask cX12_isTask 1 (some .boolean)) D [.int a0] M (eI r) := by
  exact CTx_of (own := RX12) (rk := 1) hst (by decide +kernel) rfl (rfl) (Nat.le_of_ble_eq_true rfl) (fun X hX G => by subst hX; exact ok_X12_isTask_0 G (ca_X12_isTask_ok hst hD F) a0 M h)
def n_X12_isTask {R' : Type} (f : Int32 → cM → Option (Int32 × cM)) : cFn R' := fun as M κ κx => match as with
  | [.int a0] => (f a0 M).bind fun p => κ (some (.int p.1)) p.2
  | _ => none
theorem w_X12_isTask : ∀ w ∈ [Cond.static yX12_isTask, .initialized yX12_isTask.cls, .code yX12_isTask cX12_isTask 1 (some .boolean)], w ∈ lw_good := wl_ok (by decide +kernel)
theorem n_X12_isTask_ok {R' : Type} {q : cL} {own : String} {d k : Nat} {f : Int32 → cM → Option (Int32 × cM)} (hl : Cond.methodLink own k yX12_isTask ∈ lw_good) (hf : ∀ a0 M r, f a0 M = some r → CTx q yX12_isTask (.code yX12_isTask cX12_isTask 1 (some .boolean)) d [.int a0] M (eI r)) : ceS q own d (3 * k) (n_X12_isTask (R' := R') f) := by
  intro as M κ κx r h
  unfold n_X12_isTask at h
  split at h
  · obtain ⟨p, h1, h2⟩ := Option.bind_eq_some_iff.mp h
    exact ⟨eI p, fun _ => h2, fun hne => absurd rfl hne, Or.inl ⟨yX12_isTask, cX12_isTask, 1, (some .boolean), k, 1, rfl, hf _ _ _ h1, List.forall_mem_cons.mpr ⟨hl, w_X12_isTask⟩, ⟨by decide +kernel, by decide +kernel, by decide +kernel⟩, rfl, by decide⟩⟩
  · cases h
-- PatchbayScriptModel.isLine(I)Z
def T_X12_isLine : List cRow := [(0, .iload_n 1, 1, 0), (1, .iconst 0, 2, 0), (2, .aload_n 0, 3, 0), (3, .getfield 204, 6, 0), (6, .iconst 1, 7, 0), (7, .isub, 8, 0), (8, .invokestatic 200, 11, 0), (11, .ireturn, 12, 0)]
theorem T_X12_isLine_ok : T_X12_isLine.all (rowB cX12_isLine) = true := by decide +kernel
def th_X12_isLine : List (Nat × Nat) := []
def sw_X12_isLine : List (Nat × (List (Int32 × Nat) × Nat)) := []
theorem sw_X12_isLine_ok : ∀ q ∈ sw_X12_isLine, swS cX12_isLine q := fun _ h => absurd h List.not_mem_nil
def na_X12_isLine : List (Nat × Nat) := [(600, 3)]
def ca_X12_isLine {R' : Type} (F : Nat) : List (Nat × cFn R') := [(600, n_X12_isIn (f_X12_isIn F))]
theorem ca_X12_isLine_ok {R' : Type} {q : cL} (hst : q.1.stackTraces = false) {D : Nat} (hD : 1 ≤ D) (F : Nat) : ∀ x ∈ (ca_X12_isLine (R' := R') F), 1 ≤ D ∧ ceS q RX12 (D - 1) x.1 x.2 := List.forall_mem_cons.mpr ⟨⟨by omega, n_X12_isIn_ok (k := 200) (ml_ok RX12 200 yX12_isIn (by decide +kernel)) (fun a0 a1 a2 M r h => c_X12_isIn hst (by omega) F a0 a1 a2 M r h)⟩, fun _ h => absurd h List.not_mem_nil⟩
def f_X12_isLine_0 (F : Nat) : Nat → Int32 → cM → Option (Int32 × cM) := fun x0 x1 M =>
  (fI M x0 10 3).bind fun v1 =>
  (f_X12_isIn F x1 (0 : Int32) (v1 - (1 : Int32)) M).bind fun v2 =>
  if v2.1 = 0 ∨ v2.1 = 1 then some (v2.1, v2.2) else none
set_option maxRecDepth 100000 in
theorem e_X12_isLine_0 (F : Nat) (x0 : Nat) (x1 : Int32) (M : cM) : f_X12_isLine_0 F x0 x1 M = run T_X12_isLine P_RX12 false 1 (naL na_X12_isLine) (caL (ca_X12_isLine F)) (lkN th_X12_isLine) (lkN sw_X12_isLine) krI kxN (spL []) (KL []) 11 0 [some (.ref x0), some (.int x1)] [] M := rfl
theorem ok_X12_isLine_0 {X : cCtx} {D : Nat} {r : Int32 × cM} (G : FX X 2 (eI r) cX12_isLine RX12 1 D) {F : Nat} (hca : ∀ x ∈ (ca_X12_isLine (R' := Int32 × cM) F), 1 ≤ D ∧ ceS X.1 RX12 (D - 1) x.1 x.2) : ∀ x0 x1 M, f_X12_isLine_0 F x0 x1 M = some r → WX X 2 (eI r) 0 [some (.ref x0), some (.int x1)] [] M := by
  intro x0 x1 M h
  exact seg_ok G P_RX12_ok T_X12_isLine_ok hca (fun _ h => absurd h List.not_mem_nil) sw_X12_isLine_ok krI_ok (kxN_ok (f := eI)) (fun _ h => absurd h List.not_mem_nil) ((e_X12_isLine_0 F x0 x1 M).symm.trans h)
def f_X12_isLine (F : Nat) : Nat → Int32 → cM → Option (Int32 × cM) := fun a0 a1 M => if isC M a0 10 = true then f_X12_isLine_0 F a0 a1 M else none
theorem c_X12_isLine {q : cL} (hst : q.1.stackTraces = false) {D : Nat} (hD : 1 ≤ D) (F : Nat) (a0 : Nat) (a1 : Int32) (M : cM) (r : Int32 × cM) (h : f_X12_isLine F a0 a1 M = some r) : CTx q yX12_isLine (.code yX12_isLine cX12_isLine 2 (some .boolean)) D [.ref a0, .int a1] M (eI r) ∧ ∃ fs, M[a0]? = some (.inr (10, fs)) := by
  unfold f_X12_isLine at h
  split at h
  · next hi => exact ⟨CTx_of (own := RX12) (rk := 1) hst (by decide +kernel) rfl (rfl) (Nat.le_of_ble_eq_true rfl) (fun X hX G => by subst hX; exact ok_X12_isLine_0 G (ca_X12_isLine_ok hst hD F) a0 a1 M h), isC_of hi⟩
  · cases h
def n_X12_isLine {R' : Type} (f : Nat → Int32 → cM → Option (Int32 × cM)) : cFn R' := fun as M κ κx => match as with
  | [.ref a0, .int a1] => (f a0 a1 M).bind fun p => κ (some (.int p.1)) p.2
  | _ => none
theorem w_X12_isLine : ∀ w ∈ [Cond.instanceMethod yX12_isLine, .selects yX12_isLine.cls yX12_isLine yX12_isLine, .initialized yX12_isLine.cls, .code yX12_isLine cX12_isLine 2 (some .boolean)], w ∈ lw_good := wl_ok (by decide +kernel)
theorem n_X12_isLine_ok {R' : Type} {q : cL} {own : String} {d k : Nat} {f : Nat → Int32 → cM → Option (Int32 × cM)} (hl : Cond.methodLink own k yX12_isLine ∈ lw_good) (hf : ∀ a0 a1 M r, f a0 a1 M = some r → CTx q yX12_isLine (.code yX12_isLine cX12_isLine 2 (some .boolean)) d [.ref a0, .int a1] M (eI r) ∧ ∃ fs, M[a0]? = some (.inr (10, fs))) : ceS q own d (3 * k + 1) (n_X12_isLine (R' := R') f) := by
  intro as M κ κx r h
  unfold n_X12_isLine at h
  split at h
  · obtain ⟨p, h1, h2⟩ := Option.bind_eq_some_iff.mp h
    obtain ⟨hc, fs, ha⟩ := hf _ _ _ _ h1
    exact ⟨eI p, fun _ => h2, fun hne => absurd rfl hne, Or.inr ⟨yX12_isLine, cX12_isLine, 2, (some .boolean), k, 1, _, _, 10, TX12, 76, fs, rfl, rfl, hc, ha, rfl, List.forall_mem_cons.mpr ⟨hl, w_X12_isLine⟩, ⟨rfl, by decide +kernel, by decide +kernel, by decide +kernel⟩, rfl, by decide⟩⟩
  · cases h
-- PatchbayScriptModel.isLetter(I)Z
def T_X12_isLetter : List cRow := [(0, .iload_n 0, 1, 0), (1, .bipush 97, 3, 0), (3, .bipush 122, 5, 0), (5, .invokestatic 200, 8, 0), (8, .ifCond .ne 14, 11, 22), (11, .iload_n 0, 12, 0), (12, .bipush 65, 14, 0), (14, .bipush 90, 16, 0), (16, .invokestatic 200, 19, 0), (19, .ifCond .eq 7, 22, 26), (22, .iconst 1, 23, 0), (23, .goto 4, 26, 27), (26, .iconst 0, 27, 0), (27, .ireturn, 28, 0)]
theorem T_X12_isLetter_ok : T_X12_isLetter.all (rowB cX12_isLetter) = true := by decide +kernel
def th_X12_isLetter : List (Nat × Nat) := []
def sw_X12_isLetter : List (Nat × (List (Int32 × Nat) × Nat)) := []
theorem sw_X12_isLetter_ok : ∀ q ∈ sw_X12_isLetter, swS cX12_isLetter q := fun _ h => absurd h List.not_mem_nil
def na_X12_isLetter : List (Nat × Nat) := [(600, 3)]
def ca_X12_isLetter {R' : Type} (F : Nat) : List (Nat × cFn R') := [(600, n_X12_isIn (f_X12_isIn F))]
theorem ca_X12_isLetter_ok {R' : Type} {q : cL} (hst : q.1.stackTraces = false) {D : Nat} (hD : 1 ≤ D) (F : Nat) : ∀ x ∈ (ca_X12_isLetter (R' := R') F), 1 ≤ D ∧ ceS q RX12 (D - 1) x.1 x.2 := List.forall_mem_cons.mpr ⟨⟨by omega, n_X12_isIn_ok (k := 200) (ml_ok RX12 200 yX12_isIn (by decide +kernel)) (fun a0 a1 a2 M r h => c_X12_isIn hst (by omega) F a0 a1 a2 M r h)⟩, fun _ h => absurd h List.not_mem_nil⟩
def f_X12_isLetter_0 (F : Nat) : Int32 → cM → Option (Int32 × cM) := fun x0 M =>
  (f_X12_isIn F x0 (97 : Int32) (122 : Int32) M).bind fun v1 =>
  if v1.1 = 0 then (
  (f_X12_isIn F x0 (65 : Int32) (90 : Int32) v1.2).bind fun v2 =>
  if v2.1 = 0 then (
  some ((0 : Int32), v2.2))
  else (
  some ((1 : Int32), v2.2)))
  else (
  some ((1 : Int32), v1.2))
set_option maxRecDepth 100000 in
theorem e_X12_isLetter_0 (F : Nat) (x0 : Int32) (M : cM) : f_X12_isLetter_0 F x0 M = run T_X12_isLetter P_RX12 false 1 (naL na_X12_isLetter) (caL (ca_X12_isLetter F)) (lkN th_X12_isLetter) (lkN sw_X12_isLetter) krI kxN (spL []) (KL []) 17 0 [some (.int x0)] [] M := rfl
theorem ok_X12_isLetter_0 {X : cCtx} {D : Nat} {r : Int32 × cM} (G : FX X 1 (eI r) cX12_isLetter RX12 1 D) {F : Nat} (hca : ∀ x ∈ (ca_X12_isLetter (R' := Int32 × cM) F), 1 ≤ D ∧ ceS X.1 RX12 (D - 1) x.1 x.2) : ∀ x0 M, f_X12_isLetter_0 F x0 M = some r → WX X 1 (eI r) 0 [some (.int x0)] [] M := by
  intro x0 M h
  exact seg_ok G P_RX12_ok T_X12_isLetter_ok hca (fun _ h => absurd h List.not_mem_nil) sw_X12_isLetter_ok krI_ok (kxN_ok (f := eI)) (fun _ h => absurd h List.not_mem_nil) ((e_X12_isLetter_0 F x0 M).symm.trans h)
def f_X12_isLetter (F : Nat) : Int32 → cM → Option (Int32 × cM) := fun a0 M => f_X12_isLetter_0 F a0 M
theorem c_X12_isLetter {q : cL} (hst : q.1.stackTraces = false) {D : Nat} (hD : 1 ≤ D) (F : Nat) (a0 : Int32) (M : cM) (r : Int32 × cM) (h : f_X12_isLetter F a0 M = some r) : CTx q yX12_isLetter (.code yX12_isLetter cX12_isLetter 1 (some .boolean)) D [.int a0] M (eI r) := by
  exact CTx_of (own := RX12) (rk := 1) hst (by decide +kernel) rfl (rfl) (Nat.le_of_ble_eq_true rfl) (fun X hX G => by subst hX; exact ok_X12_isLetter_0 G (ca_X12_isLetter_ok hst hD F) a0 M h)
def n_X12_isLetter {R' : Type} (f : Int32 → cM → Option (Int32 × cM)) : cFn R' := fun as M κ κx => match as with
  | [.int a0] => (f a0 M).bind fun p => κ (some (.int p.1)) p.2
  | _ => none
theorem w_X12_isLetter : ∀ w ∈ [Cond.static yX12_isLetter, .initialized yX12_isLetter.cls, .code yX12_isLetter cX12_isLetter 1 (some .boolean)], w ∈ lw_good := wl_ok (by decide +kernel)
theorem n_X12_isLetter_ok {R' : Type} {q : cL} {own : String} {d k : Nat} {f : Int32 → cM → Option (Int32 × cM)} (hl : Cond.methodLink own k yX12_isLetter ∈ lw_good) (hf : ∀ a0 M r, f a0 M = some r → CTx q yX12_isLetter (.code yX12_isLetter cX12_isLetter 1 (some .boolean)) d [.int a0] M (eI r)) : ceS q own d (3 * k) (n_X12_isLetter (R' := R') f) := by
  intro as M κ κx r h
  unfold n_X12_isLetter at h
  split at h
  · obtain ⟨p, h1, h2⟩ := Option.bind_eq_some_iff.mp h
    exact ⟨eI p, fun _ => h2, fun hne => absurd rfl hne, Or.inl ⟨yX12_isLetter, cX12_isLetter, 1, (some .boolean), k, 1, rfl, hf _ _ _ h1, List.forall_mem_cons.mpr ⟨hl, w_X12_isLetter⟩, ⟨by decide +kernel, by decide +kernel, by decide +kernel⟩, rfl, by decide⟩⟩
  · cases h
-- PatchbayScriptModel.isDigit(I)Z
def T_X12_isDigit : List cRow := [(0, .iload_n 0, 1, 0), (1, .bipush 48, 3, 0), (3, .bipush 57, 5, 0), (5, .invokestatic 200, 8, 0), (8, .ireturn, 9, 0)]
theorem T_X12_isDigit_ok : T_X12_isDigit.all (rowB cX12_isDigit) = true := by decide +kernel
def th_X12_isDigit : List (Nat × Nat) := []
def sw_X12_isDigit : List (Nat × (List (Int32 × Nat) × Nat)) := []
theorem sw_X12_isDigit_ok : ∀ q ∈ sw_X12_isDigit, swS cX12_isDigit q := fun _ h => absurd h List.not_mem_nil
def na_X12_isDigit : List (Nat × Nat) := [(600, 3)]
def ca_X12_isDigit {R' : Type} (F : Nat) : List (Nat × cFn R') := [(600, n_X12_isIn (f_X12_isIn F))]
theorem ca_X12_isDigit_ok {R' : Type} {q : cL} (hst : q.1.stackTraces = false) {D : Nat} (hD : 1 ≤ D) (F : Nat) : ∀ x ∈ (ca_X12_isDigit (R' := R') F), 1 ≤ D ∧ ceS q RX12 (D - 1) x.1 x.2 := List.forall_mem_cons.mpr ⟨⟨by omega, n_X12_isIn_ok (k := 200) (ml_ok RX12 200 yX12_isIn (by decide +kernel)) (fun a0 a1 a2 M r h => c_X12_isIn hst (by omega) F a0 a1 a2 M r h)⟩, fun _ h => absurd h List.not_mem_nil⟩
def f_X12_isDigit_0 (F : Nat) : Int32 → cM → Option (Int32 × cM) := fun x0 M =>
  (f_X12_isIn F x0 (48 : Int32) (57 : Int32) M).bind fun v1 =>
  if v1.1 = 0 ∨ v1.1 = 1 then some (v1.1, v1.2) else none
set_option maxRecDepth 100000 in
theorem e_X12_isDigit_0 (F : Nat) (x0 : Int32) (M : cM) : f_X12_isDigit_0 F x0 M = run T_X12_isDigit P_RX12 false 1 (naL na_X12_isDigit) (caL (ca_X12_isDigit F)) (lkN th_X12_isDigit) (lkN sw_X12_isDigit) krI kxN (spL []) (KL []) 8 0 [some (.int x0)] [] M := rfl
theorem ok_X12_isDigit_0 {X : cCtx} {D : Nat} {r : Int32 × cM} (G : FX X 1 (eI r) cX12_isDigit RX12 1 D) {F : Nat} (hca : ∀ x ∈ (ca_X12_isDigit (R' := Int32 × cM) F), 1 ≤ D ∧ ceS X.1 RX12 (D - 1) x.1 x.2) : ∀ x0 M, f_X12_isDigit_0 F x0 M = some r → WX X 1 (eI r) 0 [some (.int x0)] [] M := by
  intro x0 M h
  exact seg_ok G P_RX12_ok T_X12_isDigit_ok hca (fun _ h => absurd h List.not_mem_nil) sw_X12_isDigit_ok krI_ok (kxN_ok (f := eI)) (fun _ h => absurd h List.not_mem_nil) ((e_X12_isDigit_0 F x0 M).symm.trans h)
def f_X12_isDigit (F : Nat) : Int32 → cM → Option (Int32 × cM) := fun a0 M => f_X12_isDigit_0 F a0 M
theorem c_X12_isDigit {q : cL} (hst : q.1.stackTraces = false) {D : Nat} (hD : 1 ≤ D) (F : Nat) (a0 : Int32) (M : cM) (r : Int32 × cM) (h : f_X12_isDigit F a0 M = some r) : CTx q yX12_isDigit (.code yX12_isDigit cX12_isDigit 1 (some .boolean)) D [.int a0] M (eI r) := by
  exact CTx_of (own := RX12) (rk := 1) hst (by decide +kernel) rfl (rfl) (Nat.le_of_ble_eq_true rfl) (fun X hX G => by subst hX; exact ok_X12_isDigit_0 G (ca_X12_isDigit_ok hst hD F) a0 M h)
def n_X12_isDigit {R' : Type} (f : Int32 → cM → Option (Int32 × cM)) : cFn R' := fun as M κ κx => match as with
  | [.int a0] => (f a0 M).bind fun p => κ (some (.int p.1)) p.2
  | _ => none
theorem w_X12_isDigit : ∀ w ∈ [Cond.static yX12_isDigit, .initialized yX12_isDigit.cls, .code yX12_isDigit cX12_isDigit 1 (some .boolean)], w ∈ lw_good := wl_ok (by decide +kernel)
theorem n_X12_isDigit_ok {R' : Type} {q : cL} {own : String} {d k : Nat} {f : Int32 → cM → Option (Int32 × cM)} (hl : Cond.methodLink own k yX12_isDigit ∈ lw_good) (hf : ∀ a0 M r, f a0 M = some r → CTx q yX12_isDigit (.code yX12_isDigit cX12_isDigit 1 (some .boolean)) d [.int a0] M (eI r)) : ceS q own d (3 * k) (n_X12_isDigit (R' := R') f) := by
  intro as M κ κx r h
  unfold n_X12_isDigit at h
  split at h
  · obtain ⟨p, h1, h2⟩ := Option.bind_eq_some_iff.mp h
    exact ⟨eI p, fun _ => h2, fun hne => absurd rfl hne, Or.inl ⟨yX12_isDigit, cX12_isDigit, 1, (some .boolean), k, 1, rfl, hf _ _ _ h1, List.forall_mem_cons.mpr ⟨hl, w_X12_isDigit⟩, ⟨by decide +kernel, by decide +kernel, by decide +kernel⟩, rfl, by decide⟩⟩
  · cases h
-- PatchbayScriptModel.isOf(II)Z
def T_X12_isOf : List cRow := [(0, .iload_n 1, 1, 0), (1, .ifCond .ne 10, 4, 11), (4, .iload_n 0, 5, 0), (5, .invokestatic 207, 8, 0), (8, .goto 42, 11, 50), (11, .iload_n 1, 12, 0), (12, .iconst 1, 13, 0), (13, .if_icmp .ne 10, 16, 23), (16, .iload_n 0, 17, 0), (17, .invokestatic 211, 20, 0), (20, .goto 30, 23, 50), (23, .iload_n 1, 24, 0), (24, .iconst 2, 25, 0), (25, .if_icmp .ne 14, 28, 39), (28, .iload_n 0, 29, 0), (29, .bipush 65, 31, 0), (31, .bipush 90, 33, 0), (33, .invokestatic 200, 36, 0), (36, .goto 14, 39, 50), (39, .iload_n 0, 40, 0), (40, .bipush 32, 42, 0), (42, .if_icmp .eq 7, 45, 49), (45, .iconst 1, 46, 0), (46, .goto 4, 49, 50), (49, .iconst 0, 50, 0), (50, .ireturn, 51, 0)]
theorem T_X12_isOf_ok : T_X12_isOf.all (rowB cX12_isOf) = true := by decide +kernel
def th_X12_isOf : List (Nat × Nat) := []
def sw_X12_isOf : List (Nat × (List (Int32 × Nat) × Nat)) := []
theorem sw_X12_isOf_ok : ∀ q ∈ sw_X12_isOf, swS cX12_isOf q := fun _ h => absurd h List.not_mem_nil
def na_X12_isOf : List (Nat × Nat) := [(621, 1), (633, 1), (600, 3)]
def ca_X12_isOf {R' : Type} (F : Nat) : List (Nat × cFn R') := [(621, n_X12_isDigit (f_X12_isDigit F)), (633, n_X12_isLetter (f_X12_isLetter F)), (600, n_X12_isIn (f_X12_isIn F))]
theorem ca_X12_isOf_ok {R' : Type} {q : cL} (hst : q.1.stackTraces = false) {D : Nat} (hD : 2 ≤ D) (F : Nat) : ∀ x ∈ (ca_X12_isOf (R' := R') F), 1 ≤ D ∧ ceS q RX12 (D - 1) x.1 x.2 := List.forall_mem_cons.mpr ⟨⟨by omega, n_X12_isDigit_ok (k := 207) (ml_ok RX12 207 yX12_isDigit (by decide +kernel)) (fun a0 M r h => c_X12_isDigit hst (by omega) F a0 M r h)⟩, List.forall_mem_cons.mpr ⟨⟨by omega, n_X12_isLetter_ok (k := 211) (ml_ok RX12 211 yX12_isLetter (by decide +kernel)) (fun a0 M r h => c_X12_isLetter hst (by omega) F a0 M r h)⟩, List.forall_mem_cons.mpr ⟨⟨by omega, n_X12_isIn_ok (k := 200) (ml_ok RX12 200 yX12_isIn (by decide +kernel)) (fun a0 a1 a2 M r h => c_X12_isIn hst (by omega) F a0 a1 a2 M r h)⟩, fun _ h => absurd h List.not_mem_nil⟩⟩⟩
def f_X12_isOf_0 (F : Nat) : Int32 → Int32 → cM → Option (Int32 × cM) := fun x0 x1 M =>
  if x1 = 0 then (
  (f_X12_isDigit F x0 M).bind fun v1 =>
  if v1.1 = 0 ∨ v1.1 = 1 then some (v1.1, v1.2) else none)
  else (
  if x1 = (1 : Int32) then (
  (f_X12_isLetter F x0 M).bind fun v2 =>
  if v2.1 = 0 ∨ v2.1 = 1 then some (v2.1, v2.2) else none)
  else (
  if x1 = (2 : Int32) then (
  (f_X12_isIn F x0 (65 : Int32) (90 : Int32) M).bind fun v3 =>
  if v3.1 = 0 ∨ v3.1 = 1 then some (v3.1, v3.2) else none)
  else (
  if x0 = (32 : Int32) then (
  some ((0 : Int32), M))
  else (
  some ((1 : Int32), M)))))
set_option maxRecDepth 100000 in
theorem e_X12_isOf_0 (F : Nat) (x0 : Int32) (x1 : Int32) (M : cM) : f_X12_isOf_0 F x0 x1 M = run T_X12_isOf P_RX12 false 1 (naL na_X12_isOf) (caL (ca_X12_isOf F)) (lkN th_X12_isOf) (lkN sw_X12_isOf) krI kxN (spL []) (KL []) 29 0 [some (.int x0), some (.int x1)] [] M := rfl
theorem ok_X12_isOf_0 {X : cCtx} {D : Nat} {r : Int32 × cM} (G : FX X 2 (eI r) cX12_isOf RX12 1 D) {F : Nat} (hca : ∀ x ∈ (ca_X12_isOf (R' := Int32 × cM) F), 1 ≤ D ∧ ceS X.1 RX12 (D - 1) x.1 x.2) : ∀ x0 x1 M, f_X12_isOf_0 F x0 x1 M = some r → WX X 2 (eI r) 0 [some (.int x0), some (.int x1)] [] M := by
  intro x0 x1 M h
  exact seg_ok G P_RX12_ok T_X12_isOf_ok hca (fun _ h => absurd h List.not_mem_nil) sw_X12_isOf_ok krI_ok (kxN_ok (f := eI)) (fun _ h => absurd h List.not_mem_nil) ((e_X12_isOf_0 F x0 x1 M).symm.trans h)
def f_X12_isOf (F : Nat) : Int32 → Int32 → cM → Option (Int32 × cM) := fun a0 a1 M => f_X12_isOf_0 F a0 a1 M
theorem c_X12_isOf {q : cL} (hst : q.1.stackTraces = false) {D : Nat} (hD : 2 ≤ D) (F : Nat) (a0 : Int32) (a1 : Int32) (M : cM) (r : Int32 × cM) (h : f_X12_isOf F a0 a1 M = some r) : CTx q yX12_isOf (.code yX12_isOf cX12_isOf 2 (some .boolean)) D [.int a0, .int a1] M (eI r) := by
  exact CTx_of (own := RX12) (rk := 1) hst (by decide +kernel) rfl (rfl) (Nat.le_of_ble_eq_true rfl) (fun X hX G => by subst hX; exact ok_X12_isOf_0 G (ca_X12_isOf_ok hst hD F) a0 a1 M h)
def n_X12_isOf {R' : Type} (f : Int32 → Int32 → cM → Option (Int32 × cM)) : cFn R' := fun as M κ κx => match as with
  | [.int a0, .int a1] => (f a0 a1 M).bind fun p => κ (some (.int p.1)) p.2
  | _ => none
theorem w_X12_isOf : ∀ w ∈ [Cond.static yX12_isOf, .initialized yX12_isOf.cls, .code yX12_isOf cX12_isOf 2 (some .boolean)], w ∈ lw_good := wl_ok (by decide +kernel)
theorem n_X12_isOf_ok {R' : Type} {q : cL} {own : String} {d k : Nat} {f : Int32 → Int32 → cM → Option (Int32 × cM)} (hl : Cond.methodLink own k yX12_isOf ∈ lw_good) (hf : ∀ a0 a1 M r, f a0 a1 M = some r → CTx q yX12_isOf (.code yX12_isOf cX12_isOf 2 (some .boolean)) d [.int a0, .int a1] M (eI r)) : ceS q own d (3 * k) (n_X12_isOf (R' := R') f) := by
  intro as M κ κx r h
  unfold n_X12_isOf at h
  split at h
  · obtain ⟨p, h1, h2⟩ := Option.bind_eq_some_iff.mp h
    exact ⟨eI p, fun _ => h2, fun hne => absurd rfl hne, Or.inl ⟨yX12_isOf, cX12_isOf, 2, (some .boolean), k, 2, rfl, hf _ _ _ _ h1, List.forall_mem_cons.mpr ⟨hl, w_X12_isOf⟩, ⟨by decide +kernel, by decide +kernel, by decide +kernel⟩, rfl, by decide⟩⟩
  · cases h
-- PatchbayScriptModel.isSign(I)Z
def T_X12_isSign : List cRow := [(0, .iload_n 0, 1, 0), (1, .invokestatic 211, 4, 0), (4, .ifCond .ne 40, 7, 44), (7, .iload_n 0, 8, 0), (8, .invokestatic 207, 11, 0), (11, .ifCond .ne 33, 14, 44), (14, .iload_n 0, 15, 0), (15, .bipush 32, 17, 0), (17, .if_icmp .eq 27, 20, 44), (20, .iload_n 0, 21, 0), (21, .bipush 44, 23, 0), (23, .if_icmp .eq 21, 26, 44), (26, .iload_n 0, 27, 0), (27, .bipush 46, 29, 0), (29, .if_icmp .eq 15, 32, 44), (32, .iload_n 0, 33, 0), (33, .bipush 45, 35, 0), (35, .if_icmp .eq 9, 38, 44), (38, .iload_n 0, 39, 0), (39, .bipush 47, 41, 0), (41, .if_icmp .ne 7, 44, 48), (44, .iconst 1, 45, 0), (45, .goto 4, 48, 49), (48, .iconst 0, 49, 0), (49, .ireturn, 50, 0)]
theorem T_X12_isSign_ok : T_X12_isSign.all (rowB cX12_isSign) = true := by decide +kernel
def th_X12_isSign : List (Nat × Nat) := []
def sw_X12_isSign : List (Nat × (List (Int32 × Nat) × Nat)) := []
theorem sw_X12_isSign_ok : ∀ q ∈ sw_X12_isSign, swS cX12_isSign q := fun _ h => absurd h List.not_mem_nil
def na_X12_isSign : List (Nat × Nat) := [(633, 1), (621, 1)]
def ca_X12_isSign {R' : Type} (F : Nat) : List (Nat × cFn R') := [(633, n_X12_isLetter (f_X12_isLetter F)), (621, n_X12_isDigit (f_X12_isDigit F))]
theorem ca_X12_isSign_ok {R' : Type} {q : cL} (hst : q.1.stackTraces = false) {D : Nat} (hD : 2 ≤ D) (F : Nat) : ∀ x ∈ (ca_X12_isSign (R' := R') F), 1 ≤ D ∧ ceS q RX12 (D - 1) x.1 x.2 := List.forall_mem_cons.mpr ⟨⟨by omega, n_X12_isLetter_ok (k := 211) (ml_ok RX12 211 yX12_isLetter (by decide +kernel)) (fun a0 M r h => c_X12_isLetter hst (by omega) F a0 M r h)⟩, List.forall_mem_cons.mpr ⟨⟨by omega, n_X12_isDigit_ok (k := 207) (ml_ok RX12 207 yX12_isDigit (by decide +kernel)) (fun a0 M r h => c_X12_isDigit hst (by omega) F a0 M r h)⟩, fun _ h => absurd h List.not_mem_nil⟩⟩
def f_X12_isSign_0 (F : Nat) : Int32 → cM → Option (Int32 × cM) := fun x0 M =>
  (f_X12_isLetter F x0 M).bind fun v1 =>
  if v1.1 = 0 then (
  (f_X12_isDigit F x0 v1.2).bind fun v2 =>
  if v2.1 = 0 then (
  if x0 = (32 : Int32) then (
  some ((1 : Int32), v2.2))
  else (
  if x0 = (44 : Int32) then (
  some ((1 : Int32), v2.2))
  else (
  if x0 = (46 : Int32) then (
  some ((1 : Int32), v2.2))
  else (
  if x0 = (45 : Int32) then (
  some ((1 : Int32), v2.2))
  else (
  if x0 = (47 : Int32) then (
  some ((1 : Int32), v2.2))
  else (
  some ((0 : Int32), v2.2)))))))
  else (
  some ((1 : Int32), v2.2)))
  else (
  some ((1 : Int32), v1.2))
set_option maxRecDepth 100000 in
theorem e_X12_isSign_0 (F : Nat) (x0 : Int32) (M : cM) : f_X12_isSign_0 F x0 M = run T_X12_isSign P_RX12 false 1 (naL na_X12_isSign) (caL (ca_X12_isSign F)) (lkN th_X12_isSign) (lkN sw_X12_isSign) krI kxN (spL []) (KL []) 28 0 [some (.int x0)] [] M := rfl
theorem ok_X12_isSign_0 {X : cCtx} {D : Nat} {r : Int32 × cM} (G : FX X 1 (eI r) cX12_isSign RX12 1 D) {F : Nat} (hca : ∀ x ∈ (ca_X12_isSign (R' := Int32 × cM) F), 1 ≤ D ∧ ceS X.1 RX12 (D - 1) x.1 x.2) : ∀ x0 M, f_X12_isSign_0 F x0 M = some r → WX X 1 (eI r) 0 [some (.int x0)] [] M := by
  intro x0 M h
  exact seg_ok G P_RX12_ok T_X12_isSign_ok hca (fun _ h => absurd h List.not_mem_nil) sw_X12_isSign_ok krI_ok (kxN_ok (f := eI)) (fun _ h => absurd h List.not_mem_nil) ((e_X12_isSign_0 F x0 M).symm.trans h)
def f_X12_isSign (F : Nat) : Int32 → cM → Option (Int32 × cM) := fun a0 M => f_X12_isSign_0 F a0 M
theorem c_X12_isSign {q : cL} (hst : q.1.stackTraces = false) {D : Nat} (hD : 2 ≤ D) (F : Nat) (a0 : Int32) (M : cM) (r : Int32 × cM) (h : f_X12_isSign F a0 M = some r) : CTx q yX12_isSign (.code yX12_isSign cX12_isSign 1 (some .boolean)) D [.int a0] M (eI r) := by
  exact CTx_of (own := RX12) (rk := 1) hst (by decide +kernel) rfl (rfl) (Nat.le_of_ble_eq_true rfl) (fun X hX G => by subst hX; exact ok_X12_isSign_0 G (ca_X12_isSign_ok hst hD F) a0 M h)
def n_X12_isSign {R' : Type} (f : Int32 → cM → Option (Int32 × cM)) : cFn R' := fun as M κ κx => match as with
  | [.int a0] => (f a0 M).bind fun p => κ (some (.int p.1)) p.2
  | _ => none
theorem w_X12_isSign : ∀ w ∈ [Cond.static yX12_isSign, .initialized yX12_isSign.cls, .code yX12_isSign cX12_isSign 1 (some .boolean)], w ∈ lw_good := wl_ok (by decide +kernel)
theorem n_X12_isSign_ok {R' : Type} {q : cL} {own : String} {d k : Nat} {f : Int32 → cM → Option (Int32 × cM)} (hl : Cond.methodLink own k yX12_isSign ∈ lw_good) (hf : ∀ a0 M r, f a0 M = some r → CTx q yX12_isSign (.code yX12_isSign cX12_isSign 1 (some .boolean)) d [.int a0] M (eI r)) : ceS q own d (3 * k) (n_X12_isSign (R' := R') f) := by
  intro as M κ κx r h
  unfold n_X12_isSign at h
  split at h
  · obtain ⟨p, h1, h2⟩ := Option.bind_eq_some_iff.mp h
    exact ⟨eI p, fun _ => h2, fun hne => absurd rfl hne, Or.inl ⟨yX12_isSign, cX12_isSign, 1, (some .boolean), k, 1, rfl, hf _ _ _ h1, List.forall_mem_cons.mpr ⟨hl, w_X12_isSign⟩, ⟨by decide +kernel, by decide +kernel, by decide +kernel⟩, rfl, by decide⟩⟩
  · cases h
-- PatchbayScriptModel.upper(I)I
def T_X12_upper : List cRow := [(0, .iload_n 0, 1, 0), (1, .bipush 97, 3, 0), (3, .bipush 122, 5, 0), (5, .invokestatic 200, 8, 0), (8, .ifCond .eq 10, 11, 18), (11, .iload_n 0, 12, 0), (12, .bipush 32, 14, 0), (14, .isub, 15, 0), (15, .goto 4, 18, 19), (18, .iload_n 0, 19, 0), (19, .ireturn, 20, 0)]
theorem T_X12_upper_ok : T_X12_upper.all (rowB cX12_upper) = true := by decide +kernel
def th_X12_upper : List (Nat × Nat) := []
def sw_X12_upper : List (Nat × (List (Int32 × Nat) × Nat)) := []
theorem sw_X12_upper_ok : ∀ q ∈ sw_X12_upper, swS cX12_upper q := fun _ h => absurd h List.not_mem_nil
def na_X12_upper : List (Nat × Nat) := [(600, 3)]
def ca_X12_upper {R' : Type} (F : Nat) : List (Nat × cFn R') := [(600, n_X12_isIn (f_X12_isIn F))]
theorem ca_X12_upper_ok {R' : Type} {q : cL} (hst : q.1.stackTraces = false) {D : Nat} (hD : 1 ≤ D) (F : Nat) : ∀ x ∈ (ca_X12_upper (R' := R') F), 1 ≤ D ∧ ceS q RX12 (D - 1) x.1 x.2 := List.forall_mem_cons.mpr ⟨⟨by omega, n_X12_isIn_ok (k := 200) (ml_ok RX12 200 yX12_isIn (by decide +kernel)) (fun a0 a1 a2 M r h => c_X12_isIn hst (by omega) F a0 a1 a2 M r h)⟩, fun _ h => absurd h List.not_mem_nil⟩
def f_X12_upper_0 (F : Nat) : Int32 → cM → Option (Int32 × cM) := fun x0 M =>
  (f_X12_isIn F x0 (97 : Int32) (122 : Int32) M).bind fun v1 =>
  if v1.1 = 0 then (
  some (x0, v1.2))
  else (
  some (x0 - (32 : Int32), v1.2))
set_option maxRecDepth 100000 in
theorem e_X12_upper_0 (F : Nat) (x0 : Int32) (M : cM) : f_X12_upper_0 F x0 M = run T_X12_upper P_RX12 false 0 (naL na_X12_upper) (caL (ca_X12_upper F)) (lkN th_X12_upper) (lkN sw_X12_upper) krI kxN (spL []) (KL []) 14 0 [some (.int x0)] [] M := rfl
theorem ok_X12_upper_0 {X : cCtx} {D : Nat} {r : Int32 × cM} (G : FX X 1 (eI r) cX12_upper RX12 0 D) {F : Nat} (hca : ∀ x ∈ (ca_X12_upper (R' := Int32 × cM) F), 1 ≤ D ∧ ceS X.1 RX12 (D - 1) x.1 x.2) : ∀ x0 M, f_X12_upper_0 F x0 M = some r → WX X 1 (eI r) 0 [some (.int x0)] [] M := by
  intro x0 M h
  exact seg_ok G P_RX12_ok T_X12_upper_ok hca (fun _ h => absurd h List.not_mem_nil) sw_X12_upper_ok krI_ok (kxN_ok (f := eI)) (fun _ h => absurd h List.not_mem_nil) ((e_X12_upper_0 F x0 M).symm.trans h)
def f_X12_upper (F : Nat) : Int32 → cM → Option (Int32 × cM) := fun a0 M => f_X12_upper_0 F a0 M
theorem c_X12_upper {q : cL} (hst : q.1.stackTraces = false) {D : Nat} (hD : 1 ≤ D) (F : Nat) (a0 : Int32) (M : cM) (r : Int32 × cM) (h : f_X12_upper F a0 M = some r) : CTx q yX12_upper (.code yX12_upper cX12_upper 1 (some .int)) D [.int a0] M (eI r) := by
  exact CTx_of (own := RX12) (rk := 0) hst (by decide +kernel) rfl (rfl) (Nat.le_of_ble_eq_true rfl) (fun X hX G => by subst hX; exact ok_X12_upper_0 G (ca_X12_upper_ok hst hD F) a0 M h)
def n_X12_upper {R' : Type} (f : Int32 → cM → Option (Int32 × cM)) : cFn R' := fun as M κ κx => match as with
  | [.int a0] => (f a0 M).bind fun p => κ (some (.int p.1)) p.2
  | _ => none
theorem w_X12_upper : ∀ w ∈ [Cond.static yX12_upper, .initialized yX12_upper.cls, .code yX12_upper cX12_upper 1 (some .int)], w ∈ lw_good := wl_ok (by decide +kernel)
theorem n_X12_upper_ok {R' : Type} {q : cL} {own : String} {d k : Nat} {f : Int32 → cM → Option (Int32 × cM)} (hl : Cond.methodLink own k yX12_upper ∈ lw_good) (hf : ∀ a0 M r, f a0 M = some r → CTx q yX12_upper (.code yX12_upper cX12_upper 1 (some .int)) d [.int a0] M (eI r)) : ceS q own d (3 * k) (n_X12_upper (R' := R') f) := by
  intro as M κ κx r h
  unfold n_X12_upper at h
  split at h
  · obtain ⟨p, h1, h2⟩ := Option.bind_eq_some_iff.mp h
    exact ⟨eI p, fun _ => h2, fun hne => absurd rfl hne, Or.inl ⟨yX12_upper, cX12_upper, 1, (some .int), k, 1, rfl, hf _ _ _ h1, List.forall_mem_cons.mpr ⟨hl, w_X12_upper⟩, ⟨by decide +kernel, by decide +kernel, by decide +kernel⟩, rfl, by decide⟩⟩
  · cases h
-- PatchbayScriptModel.lower(I)I
def T_X12_lower : List cRow := [(0, .iload_n 0, 1, 0), (1, .bipush 65, 3, 0), (3, .bipush 90, 5, 0), (5, .invokestatic 200, 8, 0), (8, .ifCond .eq 10, 11, 18), (11, .iload_n 0, 12, 0), (12, .bipush 32, 14, 0), (14, .iadd, 15, 0), (15, .goto 4, 18, 19), (18, .iload_n 0, 19, 0), (19, .ireturn, 20, 0)]
theorem T_X12_lower_ok : T_X12_lower.all (rowB cX12_lower) = true := by decide +kernel
def th_X12_lower : List (Nat × Nat) := []
def sw_X12_lower : List (Nat × (List (Int32 × Nat) × Nat)) := []
theorem sw_X12_lower_ok : ∀ q ∈ sw_X12_lower, swS cX12_lower q := fun _ h => absurd h List.not_mem_nil
def na_X12_lower : List (Nat × Nat) := [(600, 3)]
def ca_X12_lower {R' : Type} (F : Nat) : List (Nat × cFn R') := [(600, n_X12_isIn (f_X12_isIn F))]
theorem ca_X12_lower_ok {R' : Type} {q : cL} (hst : q.1.stackTraces = false) {D : Nat} (hD : 1 ≤ D) (F : Nat) : ∀ x ∈ (ca_X12_lower (R' := R') F), 1 ≤ D ∧ ceS q RX12 (D - 1) x.1 x.2 := List.forall_mem_cons.mpr ⟨⟨by omega, n_X12_isIn_ok (k := 200) (ml_ok RX12 200 yX12_isIn (by decide +kernel)) (fun a0 a1 a2 M r h => c_X12_isIn hst (by omega) F a0 a1 a2 M r h)⟩, fun _ h => absurd h List.not_mem_nil⟩
def f_X12_lower_0 (F : Nat) : Int32 → cM → Option (Int32 × cM) := fun x0 M =>
  (f_X12_isIn F x0 (65 : Int32) (90 : Int32) M).bind fun v1 =>
  if v1.1 = 0 then (
  some (x0, v1.2))
  else (
  some (x0 + (32 : Int32), v1.2))
set_option maxRecDepth 100000 in
theorem e_X12_lower_0 (F : Nat) (x0 : Int32) (M : cM) : f_X12_lower_0 F x0 M = run T_X12_lower P_RX12 false 0 (naL na_X12_lower) (caL (ca_X12_lower F)) (lkN th_X12_lower) (lkN sw_X12_lower) krI kxN (spL []) (KL []) 14 0 [some (.int x0)] [] M := rfl
theorem ok_X12_lower_0 {X : cCtx} {D : Nat} {r : Int32 × cM} (G : FX X 1 (eI r) cX12_lower RX12 0 D) {F : Nat} (hca : ∀ x ∈ (ca_X12_lower (R' := Int32 × cM) F), 1 ≤ D ∧ ceS X.1 RX12 (D - 1) x.1 x.2) : ∀ x0 M, f_X12_lower_0 F x0 M = some r → WX X 1 (eI r) 0 [some (.int x0)] [] M := by
  intro x0 M h
  exact seg_ok G P_RX12_ok T_X12_lower_ok hca (fun _ h => absurd h List.not_mem_nil) sw_X12_lower_ok krI_ok (kxN_ok (f := eI)) (fun _ h => absurd h List.not_mem_nil) ((e_X12_lower_0 F x0 M).symm.trans h)
def f_X12_lower (F : Nat) : Int32 → cM → Option (Int32 × cM) := fun a0 M => f_X12_lower_0 F a0 M
theorem c_X12_lower {q : cL} (hst : q.1.stackTraces = false) {D : Nat} (hD : 1 ≤ D) (F : Nat) (a0 : Int32) (M : cM) (r : Int32 × cM) (h : f_X12_lower F a0 M = some r) : CTx q yX12_lower (.code yX12_lower cX12_lower 1 (some .int)) D [.int a0] M (eI r) := by
  exact CTx_of (own := RX12) (rk := 0) hst (by decide +kernel) rfl (rfl) (Nat.le_of_ble_eq_true rfl) (fun X hX G => by subst hX; exact ok_X12_lower_0 G (ca_X12_lower_ok hst hD F) a0 M h)
def n_X12_lower {R' : Type} (f : Int32 → cM → Option (Int32 × cM)) : cFn R' := fun as M κ κx => match as with
  | [.int a0] => (f a0 M).bind fun p => κ (some (.int p.1)) p.2
  | _ => none
theorem w_X12_lower : ∀ w ∈ [Cond.static yX12_lower, .initialized yX12_lower.cls, .code yX12_lower cX12_lower 1 (some .int)], w ∈ lw_good := wl_ok (by decide +kernel)
theorem n_X12_lower_ok {R' : Type} {q : cL} {own : String} {d k : Nat} {f : Int32 → cM → Option (Int32 × cM)} (hl : Cond.methodLink own k yX12_lower ∈ lw_good) (hf : ∀ a0 M r, f a0 M = some r → CTx q yX12_lower (.code yX12_lower cX12_lower 1 (some .int)) d [.int a0] M (eI r)) : ceS q own d (3 * k) (n_X12_lower (R' := R') f) := by
  intro as M κ κx r h
  unfold n_X12_lower at h
  split at h
  · obtain ⟨p, h1, h2⟩ := Option.bind_eq_some_iff.mp h
    exact ⟨eI p, fun _ => h2, fun hne => absurd rfl hne, Or.inl ⟨yX12_lower, cX12_lower, 1, (some .int), k, 1, rfl, hf _ _ _ h1, List.forall_mem_cons.mpr ⟨hl, w_X12_lower⟩, ⟨by decide +kernel, by decide +kernel, by decide +kernel⟩, rfl, by decide⟩⟩
  · cases h
-- PatchbayScriptModel.laysRuns()V
def T_X12_laysRuns : List cRow := [(0, .iconst 0, 1, 0), (1, .istore_n 1, 2, 0), (2, .iload_n 1, 3, 0), (3, .iconst 4, 4, 0), (4, .if_icmp .ge 141, 7, 145), (7, .aload_n 0, 8, 0), (8, .getfield 116, 11, 0), (11, .iload_n 1, 12, 0), (12, .iconst 0, 13, 0), (13, .iastore, 14, 0), (14, .iconst 0, 15, 0), (15, .istore_n 2, 16, 0), (16, .iload_n 2, 17, 0), (17, .aload_n 0, 18, 0), (18, .getfield 214, 21, 0), (21, .if_icmp .ge 118, 24, 139), (24, .aload_n 0, 25, 0), (25, .getfield 113, 28, 0), (28, .iload_n 2, 29, 0), (29, .iaload, 30, 0), (30, .iload_n 1, 31, 0), (31, .invokestatic 220, 34, 0), (34, .istore_n 3, 35, 0), (35, .iload_n 3, 36, 0), (36, .ifCond .eq 39, 39, 75), (39, .iload_n 2, 40, 0), (40, .ifCond .eq 18, 43, 58), (43, .aload_n 0, 44, 0), (44, .getfield 113, 47, 0), (47, .iload_n 2, 48, 0), (48, .iconst 1, 49, 0), (49, .isub, 50, 0), (50, .iaload, 51, 0), (51, .iload_n 1, 52, 0), (52, .invokestatic 220, 55, 0), (55, .ifCond .ne 20, 58, 75), (58, .aload_n 0, 59, 0), (59, .getfield 119, 62, 0), (62, .bipush 11, 64, 0), (64, .iload_n 1, 65, 0), (65, .imul, 66, 0), (66, .aload_n 0, 67, 0), (67, .getfield 116, 70, 0), (70, .iload_n 1, 71, 0), (71, .iaload, 72, 0), (72, .iadd, 73, 0), (73, .iload_n 2, 74, 0), (74, .iastore, 75, 0), (75, .iload_n 3, 76, 0), (76, .ifCond .eq 57, 79, 133), (79, .iload_n 2, 80, 0), (80, .iconst 1, 81, 0), (81, .iadd, 82, 0), (82, .aload_n 0, 83, 0), (83, .getfield 214, 86, 0), (86, .if_icmp .eq 18, 89, 104), (89, .aload_n 0, 90, 0), (90, .getfield 113, 93, 0), (93, .iload_n 2, 94, 0), (94, .iconst 1, 95, 0), (95, .iadd, 96, 0), (96, .iaload, 97, 0), (97, .iload_n 1, 98, 0), (98, .invokestatic 220, 101, 0), (101, .ifCond .ne 32, 104, 133), (104, .aload_n 0, 105, 0), (105, .getfield 122, 108, 0), (108, .bipush 11, 110, 0), (110, .iload_n 1, 111, 0), (111, .imul, 112, 0), (112, .aload_n 0, 113, 0), (113, .getfield 116, 116, 0), (116, .iload_n 1, 117, 0), (117, .iaload, 118, 0), (118, .iadd, 119, 0), (119, .iload_n 2, 120, 0), (120, .iconst 1, 121, 0), (121, .iadd, 122, 0), (122, .iastore, 123, 0), (123, .aload_n 0, 124, 0), (124, .getfield 116, 127, 0), (127, .iload_n 1, 128, 0), (128, .dup2, 129, 0), (129, .iaload, 130, 0), (130, .iconst 1, 131, 0), (131, .iadd, 132, 0), (132, .iastore, 133, 0), (133, .iinc 2 1, 136, 0), (136, .goto (-120), 139, 16), (139, .iinc 1 1, 142, 0), (142, .goto (-140), 145, 2), (145, .return_, 146, 0)]
theorem T_X12_laysRuns_ok : T_X12_laysRuns.all (rowB cX12_laysRuns) = true := by decide +kernel
def th_X12_laysRuns : List (Nat × Nat) := []
def sw_X12_laysRuns : List (Nat × (List (Int32 × Nat) × Nat)) := []
theorem sw_X12_laysRuns_ok : ∀ q ∈ sw_X12_laysRuns, swS cX12_laysRuns q := fun _ h => absurd h List.not_mem_nil
def na_X12_laysRuns : List (Nat × Nat) := [(660, 2)]
def ca_X12_laysRuns {R' : Type} (F : Nat) : List (Nat × cFn R') := [(660, n_X12_isOf (f_X12_isOf F))]
theorem ca_X12_laysRuns_ok {R' : Type} {q : cL} (hst : q.1.stackTraces = false) {D : Nat} (hD : 3 ≤ D) (F : Nat) : ∀ x ∈ (ca_X12_laysRuns (R' := R') F), 1 ≤ D ∧ ceS q RX12 (D - 1) x.1 x.2 := List.forall_mem_cons.mpr ⟨⟨by omega, n_X12_isOf_ok (k := 220) (ml_ok RX12 220 yX12_isOf (by decide +kernel)) (fun a0 a1 M r h => c_X12_isOf hst (by omega) F a0 a1 M r h)⟩, fun _ h => absurd h List.not_mem_nil⟩
def kd_X12_laysRuns_2 (g : Nat → Int32 → cM → Option (cM)) : cKf (cM) := fun vs st M => (lR vs 0).bind fun x0 => (lI vs 1).bind fun x1 => match st with
  | [] => g x0 x1 M
  | _ => none
theorem kf_X12_laysRuns_2 {X : cCtx} {o : cO} {r : cM} {g : Nat → Int32 → cM → Option (cM)} (hg : ∀ x0 x1 M, g x0 x1 M = some r → WX X 4 o 2 [some (.ref x0), some (.int x1), none, none] [] M) : ∀ vs st M, kd_X12_laysRuns_2 g vs st M = some r → WX X 4 o 2 vs st M := by
  intro vs st M h
  unfold kd_X12_laysRuns_2 at h
  obtain ⟨x0, h0, h⟩ := Option.bind_eq_some_iff.mp h
  obtain ⟨x1, h1, h⟩ := Option.bind_eq_some_iff.mp h
  split at h
  · exact WX_weak (hg _ _ _ h) rfl ⟨lR_of h0, lI_of h1, trivial⟩
  · cases h
def kd_X12_laysRuns_16 (g : Nat → Int32 → Int32 → cM → Option (cM)) : cKf (cM) := fun vs st M => (lR vs 0).bind fun x0 => (lI vs 1).bind fun x1 => (lI vs 2).bind fun x2 => match st with
  | [] => g x0 x1 x2 M
  | _ => none
theorem kf_X12_laysRuns_16 {X : cCtx} {o : cO} {r : cM} {g : Nat → Int32 → Int32 → cM → Option (cM)} (hg : ∀ x0 x1 x2 M, g x0 x1 x2 M = some r → WX X 4 o 16 [some (.ref x0), some (.int x1), some (.int x2), none] [] M) : ∀ vs st M, kd_X12_laysRuns_16 g vs st M = some r → WX X 4 o 16 vs st M := by
  intro vs st M h
  unfold kd_X12_laysRuns_16 at h
  obtain ⟨x0, h0, h⟩ := Option.bind_eq_some_iff.mp h
  obtain ⟨x1, h1, h⟩ := Option.bind_eq_some_iff.mp h
  obtain ⟨x2, h2, h⟩ := Option.bind_eq_some_iff.mp h
  split at h
  · exact WX_weak (hg _ _ _ _ h) rfl ⟨lR_of h0, lI_of h1, lI_of h2, trivial⟩
  · cases h
def kd_X12_laysRuns_58 (g : Nat → Int32 → Int32 → Int32 → cM → Option (cM)) : cKf (cM) := fun vs st M => (lR vs 0).bind fun x0 => (lI vs 1).bind fun x1 => (lI vs 2).bind fun x2 => (lI vs 3).bind fun x3 => match st with
  | [] => g x0 x1 x2 x3 M
  | _ => none
theorem kf_X12_laysRuns_58 {X : cCtx} {o : cO} {r : cM} {g : Nat → Int32 → Int32 → Int32 → cM → Option (cM)} (hg : ∀ x0 x1 x2 x3 M, g x0 x1 x2 x3 M = some r → WX X 4 o 58 [some (.ref x0), some (.int x1), some (.int x2), some (.int x3)] [] M) : ∀ vs st M, kd_X12_laysRuns_58 g vs st M = some r → WX X 4 o 58 vs st M := by
  intro vs st M h
  unfold kd_X12_laysRuns_58 at h
  obtain ⟨x0, h0, h⟩ := Option.bind_eq_some_iff.mp h
  obtain ⟨x1, h1, h⟩ := Option.bind_eq_some_iff.mp h
  obtain ⟨x2, h2, h⟩ := Option.bind_eq_some_iff.mp h
  obtain ⟨x3, h3, h⟩ := Option.bind_eq_some_iff.mp h
  split at h
  · exact WX_weak (hg _ _ _ _ _ h) rfl ⟨lR_of h0, lI_of h1, lI_of h2, lI_of h3, trivial⟩
  · cases h
def kd_X12_laysRuns_75 (g : Nat → Int32 → Int32 → Int32 → cM → Option (cM)) : cKf (cM) := fun vs st M => (lR vs 0).bind fun x0 => (lI vs 1).bind fun x1 => (lI vs 2).bind fun x2 => (lI vs 3).bind fun x3 => match st with
  | [] => g x0 x1 x2 x3 M
  | _ => none
theorem kf_X12_laysRuns_75 {X : cCtx} {o : cO} {r : cM} {g : Nat → Int32 → Int32 → Int32 → cM → Option (cM)} (hg : ∀ x0 x1 x2 x3 M, g x0 x1 x2 x3 M = some r → WX X 4 o 75 [some (.ref x0), some (.int x1), some (.int x2), some (.int x3)] [] M) : ∀ vs st M, kd_X12_laysRuns_75 g vs st M = some r → WX X 4 o 75 vs st M := by
  intro vs st M h
  unfold kd_X12_laysRuns_75 at h
  obtain ⟨x0, h0, h⟩ := Option.bind_eq_some_iff.mp h
  obtain ⟨x1, h1, h⟩ := Option.bind_eq_some_iff.mp h
  obtain ⟨x2, h2, h⟩ := Option.bind_eq_some_iff.mp h
  obtain ⟨x3, h3, h⟩ := Option.bind_eq_some_iff.mp h
  split at h
  · exact WX_weak (hg _ _ _ _ _ h) rfl ⟨lR_of h0, lI_of h1, lI_of h2, lI_of h3, trivial⟩
  · cases h
def kd_X12_laysRuns_104 (g : Nat → Int32 → Int32 → cM → Option (cM)) : cKf (cM) := fun vs st M => (lR vs 0).bind fun x0 => (lI vs 1).bind fun x1 => (lI vs 2).bind fun x2 => match st with
  | [] => g x0 x1 x2 M
  | _ => none
theorem kf_X12_laysRuns_104 {X : cCtx} {o : cO} {r : cM} {g : Nat → Int32 → Int32 → cM → Option (cM)} (hg : ∀ x0 x1 x2 M, g x0 x1 x2 M = some r → WX X 4 o 104 [some (.ref x0), some (.int x1), some (.int x2), none] [] M) : ∀ vs st M, kd_X12_laysRuns_104 g vs st M = some r → WX X 4 o 104 vs st M := by
  intro vs st M h
  unfold kd_X12_laysRuns_104 at h
  obtain ⟨x0, h0, h⟩ := Option.bind_eq_some_iff.mp h
  obtain ⟨x1, h1, h⟩ := Option.bind_eq_some_iff.mp h
  obtain ⟨x2, h2, h⟩ := Option.bind_eq_some_iff.mp h
  split at h
  · exact WX_weak (hg _ _ _ _ h) rfl ⟨lR_of h0, lI_of h1, lI_of h2, trivial⟩
  · cases h
def f_X12_laysRuns_104 (F : Nat) (k2 : Nat → Int32 → cM → Option (cM)) (k16 : Nat → Int32 → Int32 → cM → Option (cM)) : Nat → Int32 → Int32 → cM → Option (cM) := fun x0 x1 x2 M =>
  (fR M x0 10 44).bind fun v1 =>
  (fR M x0 10 42).bind fun v2 =>
  (aI 0 M v2 x1).bind fun v3 =>
  (sI 0 M v1 (((11 : Int32) * x1) + v3) (x2 + (1 : Int32))).bind fun M4 =>
  (fR M4 x0 10 42).bind fun v5 =>
  (aI 0 M4 v5 x1).bind fun v6 =>
  (sI 0 M4 v5 x1 (v6 + (1 : Int32))).bind fun M7 =>
  k16 x0 x1 (x2 + (1 : Int32)) M7
set_option maxRecDepth 100000 in
theorem e_X12_laysRuns_104 (F : Nat) (k2 : Nat → Int32 → cM → Option (cM)) (k16 : Nat → Int32 → Int32 → cM → Option (cM)) (x0 : Nat) (x1 : Int32) (x2 : Int32) (M : cM) : f_X12_laysRuns_104 F k2 k16 x0 x1 x2 M = run T_X12_laysRuns P_RX12 false 5 (naL na_X12_laysRuns) (caL (ca_X12_laysRuns F)) (lkN th_X12_laysRuns) (lkN sw_X12_laysRuns) krV kxN (spL [16]) (KL [(16, kd_X12_laysRuns_16 (k16))]) 95 104 [some (.ref x0), some (.int x1), some (.int x2), none] [] M := rfl
theorem ok_X12_laysRuns_104 {X : cCtx} {D : Nat} {r : cM} (G : FX X 4 (eV r) cX12_laysRuns RX12 5 D) {F : Nat} (hca : ∀ x ∈ (ca_X12_laysRuns (R' := cM) F), 1 ≤ D ∧ ceS X.1 RX12 (D - 1) x.1 x.2) (k2 : Nat → Int32 → cM → Option (cM)) (k16 : Nat → Int32 → Int32 → cM → Option (cM)) (hk2 : ∀ x0 x1 M, k2 x0 x1 M = some r → WX X 4 (eV r) 2 [some (.ref x0), some (.int x1), none, none] [] M) (hk16 : ∀ x0 x1 x2 M, k16 x0 x1 x2 M = some r → WX X 4 (eV r) 16 [some (.ref x0), some (.int x1), some (.int x2), none] [] M) : ∀ x0 x1 x2 M, f_X12_laysRuns_104 F k2 k16 x0 x1 x2 M = some r → WX X 4 (eV r) 104 [some (.ref x0), some (.int x1), some (.int x2), none] [] M := by
  intro x0 x1 x2 M h
  exact seg_ok G P_RX12_ok T_X12_laysRuns_ok hca (fun _ h => absurd h List.not_mem_nil) sw_X12_laysRuns_ok krV_ok (kxN_ok (f := eV)) (List.forall_mem_cons.mpr ⟨kf_X12_laysRuns_16 (hk16), fun _ h => absurd h List.not_mem_nil⟩) ((e_X12_laysRuns_104 F k2 k16 x0 x1 x2 M).symm.trans h)
def f_X12_laysRuns_75 (F : Nat) (k2 : Nat → Int32 → cM → Option (cM)) (k16 : Nat → Int32 → Int32 → cM → Option (cM)) : Nat → Int32 → Int32 → Int32 → cM → Option (cM) := fun x0 x1 x2 x3 M =>
  if x3 = 0 then (
  k16 x0 x1 (x2 + (1 : Int32)) M)
  else (
  (fI M x0 10 40).bind fun v1 =>
  if x2 + (1 : Int32) = v1 then (
  f_X12_laysRuns_104 F k2 k16 x0 x1 x2 M)
  else (
  (fR M x0 10 41).bind fun v2 =>
  (aI 0 M v2 (x2 + (1 : Int32))).bind fun v3 =>
  (f_X12_isOf F v3 x1 M).bind fun v4 =>
  if v4.1 = 0 then (
  f_X12_laysRuns_104 F k2 k16 x0 x1 x2 v4.2)
  else (
  k16 x0 x1 (x2 + (1 : Int32)) v4.2)))
set_option maxRecDepth 100000 in
theorem e_X12_laysRuns_75 (F : Nat) (k2 : Nat → Int32 → cM → Option (cM)) (k16 : Nat → Int32 → Int32 → cM → Option (cM)) (x0 : Nat) (x1 : Int32) (x2 : Int32) (x3 : Int32) (M : cM) : f_X12_laysRuns_75 F k2 k16 x0 x1 x2 x3 M = run T_X12_laysRuns P_RX12 false 5 (naL na_X12_laysRuns) (caL (ca_X12_laysRuns F)) (lkN th_X12_laysRuns) (lkN sw_X12_laysRuns) krV kxN (spL [16, 104]) (KL [(16, kd_X12_laysRuns_16 (k16)), (104, kd_X12_laysRuns_104 (f_X12_laysRuns_104 F k2 k16))]) 95 75 [some (.ref x0), some (.int x1), some (.int x2), some (.int x3)] [] M := rfl
theorem ok_X12_laysRuns_75 {X : cCtx} {D : Nat} {r : cM} (G : FX X 4 (eV r) cX12_laysRuns RX12 5 D) {F : Nat} (hca : ∀ x ∈ (ca_X12_laysRuns (R' := cM) F), 1 ≤ D ∧ ceS X.1 RX12 (D - 1) x.1 x.2) (k2 : Nat → Int32 → cM → Option (cM)) (k16 : Nat → Int32 → Int32 → cM → Option (cM)) (hk2 : ∀ x0 x1 M, k2 x0 x1 M = some r → WX X 4 (eV r) 2 [some (.ref x0), some (.int x1), none, none] [] M) (hk16 : ∀ x0 x1 x2 M, k16 x0 x1 x2 M = some r → WX X 4 (eV r) 16 [some (.ref x0), some (.int x1), some (.int x2), none] [] M) : ∀ x0 x1 x2 x3 M, f_X12_laysRuns_75 F k2 k16 x0 x1 x2 x3 M = some r → WX X 4 (eV r) 75 [some (.ref x0), some (.int x1), some (.int x2), some (.int x3)] [] M := by
  intro x0 x1 x2 x3 M h
  exact seg_ok G P_RX12_ok T_X12_laysRuns_ok hca (fun _ h => absurd h List.not_mem_nil) sw_X12_laysRuns_ok krV_ok (kxN_ok (f := eV)) (List.forall_mem_cons.mpr ⟨kf_X12_laysRuns_16 (hk16), List.forall_mem_cons.mpr ⟨kf_X12_laysRuns_104 (ok_X12_laysRuns_104 G hca k2 k16 hk2 hk16), fun _ h => absurd h List.not_mem_nil⟩⟩) ((e_X12_laysRuns_75 F k2 k16 x0 x1 x2 x3 M).symm.trans h)
def f_X12_laysRuns_58 (F : Nat) (k2 : Nat → Int32 → cM → Option (cM)) (k16 : Nat → Int32 → Int32 → cM → Option (cM)) : Nat → Int32 → Int32 → Int32 → cM → Option (cM) := fun x0 x1 x2 x3 M =>
  (fR M x0 10 43).bind fun v1 =>
  (fR M x0 10 42).bind fun v2 =>
  (aI 0 M v2 x1).bind fun v3 =>
  (sI 0 M v1 (((11 : Int32) * x1) + v3) x2).bind fun M4 =>
  f_X12_laysRuns_75 F k2 k16 x0 x1 x2 x3 M4
set_option maxRecDepth 100000 in
theorem e_X12_laysRuns_58 (F : Nat) (k2 : Nat → Int32 → cM → Option (cM)) (k16 : Nat → Int32 → Int32 → cM → Option (cM)) (x0 : Nat) (x1 : Int32) (x2 : Int32) (x3 : Int32) (M : cM) : f_X12_laysRuns_58 F k2 k16 x0 x1 x2 x3 M = run T_X12_laysRuns P_RX12 false 5 (naL na_X12_laysRuns) (caL (ca_X12_laysRuns F)) (lkN th_X12_laysRuns) (lkN sw_X12_laysRuns) krV kxN (spL [75]) (KL [(75, kd_X12_laysRuns_75 (f_X12_laysRuns_75 F k2 k16))]) 95 58 [some (.ref x0), some (.int x1), some (.int x2), some (.int x3)] [] M := rfl
theorem ok_X12_laysRuns_58 {X : cCtx} {D : Nat} {r : cM} (G : FX X 4 (eV r) cX12_laysRuns RX12 5 D) {F : Nat} (hca : ∀ x ∈ (ca_X12_laysRuns (R' := cM) F), 1 ≤ D ∧ ceS X.1 RX12 (D - 1) x.1 x.2) (k2 : Nat → Int32 → cM → Option (cM)) (k16 : Nat → Int32 → Int32 → cM → Option (cM)) (hk2 : ∀ x0 x1 M, k2 x0 x1 M = some r → WX X 4 (eV r) 2 [some (.ref x0), some (.int x1), none, none] [] M) (hk16 : ∀ x0 x1 x2 M, k16 x0 x1 x2 M = some r → WX X 4 (eV r) 16 [some (.ref x0), some (.int x1), some (.int x2), none] [] M) : ∀ x0 x1 x2 x3 M, f_X12_laysRuns_58 F k2 k16 x0 x1 x2 x3 M = some r → WX X 4 (eV r) 58 [some (.ref x0), some (.int x1), some (.int x2), some (.int x3)] [] M := by
  intro x0 x1 x2 x3 M h
  exact seg_ok G P_RX12_ok T_X12_laysRuns_ok hca (fun _ h => absurd h List.not_mem_nil) sw_X12_laysRuns_ok krV_ok (kxN_ok (f := eV)) (List.forall_mem_cons.mpr ⟨kf_X12_laysRuns_75 (ok_X12_laysRuns_75 G hca k2 k16 hk2 hk16), fun _ h => absurd h List.not_mem_nil⟩) ((e_X12_laysRuns_58 F k2 k16 x0 x1 x2 x3 M).symm.trans h)
def f_X12_laysRuns_16 (F : Nat) (k2 : Nat → Int32 → cM → Option (cM)) : Nat → Nat → Int32 → Int32 → cM → Option (cM) := fun n => Nat.rec (fun _ _ _ _ => none) (fun _ ih x0 x1 x2 M =>
  (fI M x0 10 40).bind fun v1 =>
  if v1 ≤ x2 then (
  k2 x0 (x1 + (1 : Int32)) M)
  else (
  (fR M x0 10 41).bind fun v2 =>
  (aI 0 M v2 x2).bind fun v3 =>
  (f_X12_isOf F v3 x1 M).bind fun v4 =>
  if v4.1 = 0 then (
  f_X12_laysRuns_75 F k2 ih x0 x1 x2 v4.1 v4.2)
  else (
  if x2 = 0 then (
  f_X12_laysRuns_58 F k2 ih x0 x1 x2 v4.1 v4.2)
  else (
  (fR v4.2 x0 10 41).bind fun v5 =>
  (aI 0 v4.2 v5 (x2 - (1 : Int32))).bind fun v6 =>
  (f_X12_isOf F v6 x1 v4.2).bind fun v7 =>
  if v7.1 = 0 then (
  f_X12_laysRuns_58 F k2 ih x0 x1 x2 v4.1 v7.2)
  else (
  f_X12_laysRuns_75 F k2 ih x0 x1 x2 v4.1 v7.2))))) n
set_option maxRecDepth 100000 in
theorem e_X12_laysRuns_16 (F : Nat) (k2 : Nat → Int32 → cM → Option (cM)) (n : Nat) (x0 : Nat) (x1 : Int32) (x2 : Int32) (M : cM) : f_X12_laysRuns_16 F k2 (n + 1) x0 x1 x2 M = run T_X12_laysRuns P_RX12 false 5 (naL na_X12_laysRuns) (caL (ca_X12_laysRuns F)) (lkN th_X12_laysRuns) (lkN sw_X12_laysRuns) krV kxN (spL [2, 58, 75]) (KL [(2, kd_X12_laysRuns_2 (k2)), (58, kd_X12_laysRuns_58 (f_X12_laysRuns_58 F k2 (f_X12_laysRuns_16 F k2 n))), (75, kd_X12_laysRuns_75 (f_X12_laysRuns_75 F k2 (f_X12_laysRuns_16 F k2 n)))]) 95 16 [some (.ref x0), some (.int x1), some (.int x2), none] [] M := rfl
theorem ok_X12_laysRuns_16 {X : cCtx} {D : Nat} {r : cM} (G : FX X 4 (eV r) cX12_laysRuns RX12 5 D) {F : Nat} (hca : ∀ x ∈ (ca_X12_laysRuns (R' := cM) F), 1 ≤ D ∧ ceS X.1 RX12 (D - 1) x.1 x.2) (k2 : Nat → Int32 → cM → Option (cM)) (hk2 : ∀ x0 x1 M, k2 x0 x1 M = some r → WX X 4 (eV r) 2 [some (.ref x0), some (.int x1), none, none] [] M) (n : Nat) : ∀ x0 x1 x2 M, f_X12_laysRuns_16 F k2 n x0 x1 x2 M = some r → WX X 4 (eV r) 16 [some (.ref x0), some (.int x1), some (.int x2), none] [] M := by
  induction n with
  | zero => intro x0 x1 x2 M h; cases h
  | succ n ih =>
    intro x0 x1 x2 M h
    exact seg_ok G P_RX12_ok T_X12_laysRuns_ok hca (fun _ h => absurd h List.not_mem_nil) sw_X12_laysRuns_ok krV_ok (kxN_ok (f := eV)) (List.forall_mem_cons.mpr ⟨kf_X12_laysRuns_2 (hk2), List.forall_mem_cons.mpr ⟨kf_X12_laysRuns_58 (ok_X12_laysRuns_58 G hca k2 (f_X12_laysRuns_16 F k2 n) hk2 ih), List.forall_mem_cons.mpr ⟨kf_X12_laysRuns_75 (ok_X12_laysRuns_75 G hca k2 (f_X12_laysRuns_16 F k2 n) hk2 ih), fun _ h => absurd h List.not_mem_nil⟩⟩⟩) ((e_X12_laysRuns_16 F k2 n x0 x1 x2 M).symm.trans h)
def f_X12_laysRuns_2 (F : Nat) : Nat → Nat → Int32 → cM → Option (cM) := fun n => Nat.rec (fun _ _ _ => none) (fun _ ih x0 x1 M =>
  if (4 : Int32) ≤ x1 then (
  some M)
  else (
  (fR M x0 10 42).bind fun v1 =>
  (sI 0 M v1 x1 (0 : Int32)).bind fun M2 =>
  f_X12_laysRuns_16 F ih F x0 x1 (0 : Int32) M2)) n
set_option maxRecDepth 100000 in
theorem e_X12_laysRuns_2 (F : Nat) (n : Nat) (x0 : Nat) (x1 : Int32) (M : cM) : f_X12_laysRuns_2 F (n + 1) x0 x1 M = run T_X12_laysRuns P_RX12 false 5 (naL na_X12_laysRuns) (caL (ca_X12_laysRuns F)) (lkN th_X12_laysRuns) (lkN sw_X12_laysRuns) krV kxN (spL [16]) (KL [(16, kd_X12_laysRuns_16 (f_X12_laysRuns_16 F (f_X12_laysRuns_2 F n) F))]) 95 2 [some (.ref x0), some (.int x1), none, none] [] M := rfl
theorem ok_X12_laysRuns_2 {X : cCtx} {D : Nat} {r : cM} (G : FX X 4 (eV r) cX12_laysRuns RX12 5 D) {F : Nat} (hca : ∀ x ∈ (ca_X12_laysRuns (R' := cM) F), 1 ≤ D ∧ ceS X.1 RX12 (D - 1) x.1 x.2) (n : Nat) : ∀ x0 x1 M, f_X12_laysRuns_2 F n x0 x1 M = some r → WX X 4 (eV r) 2 [some (.ref x0), some (.int x1), none, none] [] M := by
  induction n with
  | zero => intro x0 x1 M h; cases h
  | succ n ih =>
    intro x0 x1 M h
    exact seg_ok G P_RX12_ok T_X12_laysRuns_ok hca (fun _ h => absurd h List.not_mem_nil) sw_X12_laysRuns_ok krV_ok (kxN_ok (f := eV)) (List.forall_mem_cons.mpr ⟨kf_X12_laysRuns_16 (ok_X12_laysRuns_16 G hca (f_X12_laysRuns_2 F n) ih F), fun _ h => absurd h List.not_mem_nil⟩) ((e_X12_laysRuns_2 F n x0 x1 M).symm.trans h)
def f_X12_laysRuns_0 (F : Nat) : Nat → cM → Option (cM) := fun x0 M =>
  f_X12_laysRuns_2 F F x0 (0 : Int32) M
set_option maxRecDepth 100000 in
theorem e_X12_laysRuns_0 (F : Nat) (x0 : Nat) (M : cM) : f_X12_laysRuns_0 F x0 M = run T_X12_laysRuns P_RX12 false 5 (naL na_X12_laysRuns) (caL (ca_X12_laysRuns F)) (lkN th_X12_laysRuns) (lkN sw_X12_laysRuns) krV kxN (spL [2]) (KL [(2, kd_X12_laysRuns_2 (f_X12_laysRuns_2 F F))]) 95 0 [some (.ref x0), none, none, none] [] M := rfl
theorem ok_X12_laysRuns_0 {X : cCtx} {D : Nat} {r : cM} (G : FX X 4 (eV r) cX12_laysRuns RX12 5 D) {F : Nat} (hca : ∀ x ∈ (ca_X12_laysRuns (R' := cM) F), 1 ≤ D ∧ ceS X.1 RX12 (D - 1) x.1 x.2) : ∀ x0 M, f_X12_laysRuns_0 F x0 M = some r → WX X 4 (eV r) 0 [some (.ref x0), none, none, none] [] M := by
  intro x0 M h
  exact seg_ok G P_RX12_ok T_X12_laysRuns_ok hca (fun _ h => absurd h List.not_mem_nil) sw_X12_laysRuns_ok krV_ok (kxN_ok (f := eV)) (List.forall_mem_cons.mpr ⟨kf_X12_laysRuns_2 (ok_X12_laysRuns_2 G hca F), fun _ h => absurd h List.not_mem_nil⟩) ((e_X12_laysRuns_0 F x0 M).symm.trans h)
def f_X12_laysRuns (F : Nat) : Nat → cM → Option (cM) := fun a0 M => if isC M a0 10 = true then f_X12_laysRuns_0 F a0 M else none
theorem c_X12_laysRuns {q : cL} (hst : q.1.stackTraces = false) {D : Nat} (hD : 3 ≤ D) (F : Nat) (a0 : Nat) (M : cM) (r : cM) (h : f_X12_laysRuns F a0 M = some r) : CTx q yX12_laysRuns (.code yX12_laysRuns cX12_laysRuns 4 none) D [.ref a0] M (eV r) ∧ ∃ fs, M[a0]? = some (.inr (10, fs)) := by
  unfold f_X12_laysRuns at h
  split at h
  · next hi => exact ⟨CTx_of (own := RX12) (rk := 5) hst (by decide +kernel) rfl (rfl) (Nat.le_of_ble_eq_true rfl) (fun X hX G => by subst hX; exact ok_X12_laysRuns_0 G (ca_X12_laysRuns_ok hst hD F) a0 M h), isC_of hi⟩
  · cases h
def n_X12_laysRuns {R' : Type} (f : Nat → cM → Option (cM)) : cFn R' := fun as M κ κx => match as with
  | [.ref a0] => (f a0 M).bind fun p => κ none p
  | _ => none
theorem w_X12_laysRuns : ∀ w ∈ [Cond.instanceMethod yX12_laysRuns, .selects yX12_laysRuns.cls yX12_laysRuns yX12_laysRuns, .initialized yX12_laysRuns.cls, .code yX12_laysRuns cX12_laysRuns 4 none], w ∈ lw_good := wl_ok (by decide +kernel)
theorem n_X12_laysRuns_ok {R' : Type} {q : cL} {own : String} {d k : Nat} {f : Nat → cM → Option (cM)} (hl : Cond.methodLink own k yX12_laysRuns ∈ lw_good) (hf : ∀ a0 M r, f a0 M = some r → CTx q yX12_laysRuns (.code yX12_laysRuns cX12_laysRuns 4 none) d [.ref a0] M (eV r) ∧ ∃ fs, M[a0]? = some (.inr (10, fs))) : ceS q own d (3 * k + 1) (n_X12_laysRuns (R' := R') f) := by
  intro as M κ κx r h
  unfold n_X12_laysRuns at h
  split at h
  · obtain ⟨p, h1, h2⟩ := Option.bind_eq_some_iff.mp h
    obtain ⟨hc, fs, ha⟩ := hf _ _ _ h1
    exact ⟨eV p, fun _ => h2, fun hne => absurd rfl hne, Or.inr ⟨yX12_laysRuns, cX12_laysRuns, 4, none, k, 0, _, _, 10, TX12, 76, fs, rfl, rfl, hc, ha, rfl, List.forall_mem_cons.mpr ⟨hl, w_X12_laysRuns⟩, ⟨rfl, by decide +kernel, by decide +kernel, by decide +kernel⟩, rfl, by decide⟩⟩
  · cases h
-- PatchbayScriptModel.takes([III)V
def T_X12_takes : List cRow := [(0, .aload_n 0, 1, 0), (1, .iload_n 3, 2, 0), (2, .putfield 214, 5, 0), (5, .iconst 0, 6, 0), (6, .istore 4, 8, 0), (8, .iload 4, 10, 0), (10, .iload_n 3, 11, 0), (11, .if_icmp .ge 22, 14, 33), (14, .aload_n 0, 15, 0), (15, .getfield 113, 18, 0), (18, .iload 4, 20, 0), (20, .aload_n 1, 21, 0), (21, .iload_n 2, 22, 0), (22, .iload 4, 24, 0), (24, .iadd, 25, 0), (25, .iaload, 26, 0), (26, .iastore, 27, 0), (27, .iinc 4 1, 30, 0), (30, .goto (-22), 33, 8), (33, .aload_n 0, 34, 0), (34, .invokevirtual 217, 37, 0), (37, .return_, 38, 0)]
theorem T_X12_takes_ok : T_X12_takes.all (rowB cX12_takes) = true := by decide +kernel
def th_X12_takes : List (Nat × Nat) := []
def sw_X12_takes : List (Nat × (List (Int32 × Nat) × Nat)) := []
theorem sw_X12_takes_ok : ∀ q ∈ sw_X12_takes, swS cX12_takes q := fun _ h => absurd h List.not_mem_nil
def na_X12_takes : List (Nat × Nat) := [(652, 1)]
def ca_X12_takes {R' : Type} (F : Nat) : List (Nat × cFn R') := [(652, n_X12_laysRuns (f_X12_laysRuns F))]
theorem ca_X12_takes_ok {R' : Type} {q : cL} (hst : q.1.stackTraces = false) {D : Nat} (hD : 4 ≤ D) (F : Nat) : ∀ x ∈ (ca_X12_takes (R' := R') F), 1 ≤ D ∧ ceS q RX12 (D - 1) x.1 x.2 := List.forall_mem_cons.mpr ⟨⟨by omega, n_X12_laysRuns_ok (k := 217) (ml_ok RX12 217 yX12_laysRuns (by decide +kernel)) (fun a0 M r h => c_X12_laysRuns hst (by omega) F a0 M r h)⟩, fun _ h => absurd h List.not_mem_nil⟩
def kd_X12_takes_8 (g : Nat → Nat → Int32 → Int32 → Int32 → cM → Option (cM)) : cKf (cM) := fun vs st M => (lR vs 0).bind fun x0 => (lR vs 1).bind fun x1 => (lI vs 2).bind fun x2 => (lI vs 3).bind fun x3 => (lI vs 4).bind fun x4 => match st with
  | [] => g x0 x1 x2 x3 x4 M
  | _ => none
theorem kf_X12_takes_8 {X : cCtx} {o : cO} {r : cM} {g : Nat → Nat → Int32 → Int32 → Int32 → cM → Option (cM)} (hg : ∀ x0 x1 x2 x3 x4 M, g x0 x1 x2 x3 x4 M = some r → WX X 5 o 8 [some (.ref x0), some (.ref x1), some (.int x2), some (.int x3), some (.int x4)] [] M) : ∀ vs st M, kd_X12_takes_8 g vs st M = some r → WX X 5 o 8 vs st M := by
  intro vs st M h
  unfold kd_X12_takes_8 at h
  obtain ⟨x0, h0, h⟩ := Option.bind_eq_some_iff.mp h
  obtain ⟨x1, h1, h⟩ := Option.bind_eq_some_iff.mp h
  obtain ⟨x2, h2, h⟩ := Option.bind_eq_some_iff.mp h
  obtain ⟨x3, h3, h⟩ := Option.bind_eq_some_iff.mp h
  obtain ⟨x4, h4, h⟩ := Option.bind_eq_some_iff.mp h
  split at h
  · exact WX_weak (hg _ _ _ _ _ _ h) rfl ⟨lR_of h0, lR_of h1, lI_of h2, lI_of h3, lI_of h4, trivial⟩
  · cases h
def f_X12_takes_8 (F : Nat) : Nat → Nat → Nat → Int32 → Int32 → Int32 → cM → Option (cM) := fun n => Nat.rec (fun _ _ _ _ _ _ => none) (fun _ ih x0 x1 x2 x3 x4 M =>
  if x3 ≤ x4 then (
  (f_X12_laysRuns F x0 M).bind fun v1 =>
  some v1)
  else (
  (fR M x0 10 41).bind fun v2 =>
  (aI 0 M x1 (x2 + x4)).bind fun v3 =>
  (sI 0 M v2 x4 v3).bind fun M4 =>
  ih x0 x1 x2 x3 (x4 + (1 : Int32)) M4)) n
set_option maxRecDepth 100000 in
theorem e_X12_takes_8 (F : Nat) (n : Nat) (x0 : Nat) (x1 : Nat) (x2 : Int32) (x3 : Int32) (x4 : Int32) (M : cM) : f_X12_takes_8 F (n + 1) x0 x1 x2 x3 x4 M = run T_X12_takes P_RX12 false 5 (naL na_X12_takes) (caL (ca_X12_takes F)) (lkN th_X12_takes) (lkN sw_X12_takes) krV kxN (spL [8]) (KL [(8, kd_X12_takes_8 (f_X12_takes_8 F n))]) 25 8 [some (.ref x0), some (.ref x1), some (.int x2), some (.int x3), some (.int x4)] [] M := rfl
theorem ok_X12_takes_8 {X : cCtx} {D : Nat} {r : cM} (G : FX X 5 (eV r) cX12_takes RX12 5 D) {F : Nat} (hca : ∀ x ∈ (ca_X12_takes (R' := cM) F), 1 ≤ D ∧ ceS X.1 RX12 (D - 1) x.1 x.2) (n : Nat) : ∀ x0 x1 x2 x3 x4 M, f_X12_takes_8 F n x0 x1 x2 x3 x4 M = some r → WX X 5 (eV r) 8 [some (.ref x0), some (.ref x1), some (.int x2), some (.int x3), some (.int x4)] [] M := by
  induction n with
  | zero => intro x0 x1 x2 x3 x4 M h; cases h
  | succ n ih =>
    intro x0 x1 x2 x3 x4 M h
    exact seg_ok G P_RX12_ok T_X12_takes_ok hca (fun _ h => absurd h List.not_mem_nil) sw_X12_takes_ok krV_ok (kxN_ok (f := eV)) (List.forall_mem_cons.mpr ⟨kf_X12_takes_8 (ih), fun _ h => absurd h List.not_mem_nil⟩) ((e_X12_takes_8 F n x0 x1 x2 x3 x4 M).symm.trans h)
def f_X12_takes_0 (F : Nat) : Nat → Nat → Int32 → Int32 → cM → Option (cM) := fun x0 x1 x2 x3 M =>
  (pF M x0 10 40 (.int x3)).bind fun M1 =>
  f_X12_takes_8 F F x0 x1 x2 x3 (0 : Int32) M1
set_option maxRecDepth 100000 in
theorem e_X12_takes_0 (F : Nat) (x0 : Nat) (x1 : Nat) (x2 : Int32) (x3 : Int32) (M : cM) : f_X12_takes_0 F x0 x1 x2 x3 M = run T_X12_takes P_RX12 false 5 (naL na_X12_takes) (caL (ca_X12_takes F)) (lkN th_X12_takes) (lkN sw_X12_takes) krV kxN (spL [8]) (KL [(8, kd_X12_takes_8 (f_X12_takes_8 F F))]) 25 0 [some (.ref x0), some (.ref x1), some (.int x2), some (.int x3), none] [] M := rfl
theorem ok_X12_takes_0 {X : cCtx} {D : Nat} {r : cM} (G : FX X 5 (eV r) cX12_takes RX12 5 D) {F : Nat} (hca : ∀ x ∈ (ca_X12_takes (R' := cM) F), 1 ≤ D ∧ ceS X.1 RX12 (D - 1) x.1 x.2) : ∀ x0 x1 x2 x3 M, f_X12_takes_0 F x0 x1 x2 x3 M = some r → WX X 5 (eV r) 0 [some (.ref x0), some (.ref x1), some (.int x2), some (.int x3), none] [] M := by
  intro x0 x1 x2 x3 M h
  exact seg_ok G P_RX12_ok T_X12_takes_ok hca (fun _ h => absurd h List.not_mem_nil) sw_X12_takes_ok krV_ok (kxN_ok (f := eV)) (List.forall_mem_cons.mpr ⟨kf_X12_takes_8 (ok_X12_takes_8 G hca F), fun _ h => absurd h List.not_mem_nil⟩) ((e_X12_takes_0 F x0 x1 x2 x3 M).symm.trans h)
def f_X12_takes (F : Nat) : Nat → Nat → Int32 → Int32 → cM → Option (cM) := fun a0 a1 a2 a3 M => if isC M a0 10 = true then f_X12_takes_0 F a0 a1 a2 a3 M else none
theorem c_X12_takes {q : cL} (hst : q.1.stackTraces = false) {D : Nat} (hD : 4 ≤ D) (F : Nat) (a0 : Nat) (a1 : Nat) (a2 : Int32) (a3 : Int32) (M : cM) (r : cM) (h : f_X12_takes F a0 a1 a2 a3 M = some r) : CTx q yX12_takes (.code yX12_takes cX12_takes 5 none) D [.ref a0, .ref a1, .int a2, .int a3] M (eV r) ∧ ∃ fs, M[a0]? = some (.inr (10, fs)) := by
  unfold f_X12_takes at h
  split at h
  · next hi => exact ⟨CTx_of (own := RX12) (rk := 5) hst (by decide +kernel) rfl (rfl) (Nat.le_of_ble_eq_true rfl) (fun X hX G => by subst hX; exact ok_X12_takes_0 G (ca_X12_takes_ok hst hD F) a0 a1 a2 a3 M h), isC_of hi⟩
  · cases h
def n_X12_takes {R' : Type} (f : Nat → Nat → Int32 → Int32 → cM → Option (cM)) : cFn R' := fun as M κ κx => match as with
  | [.ref a0, .ref a1, .int a2, .int a3] => (f a0 a1 a2 a3 M).bind fun p => κ none p
  | _ => none
theorem w_X12_takes : ∀ w ∈ [Cond.instanceMethod yX12_takes, .selects yX12_takes.cls yX12_takes yX12_takes, .initialized yX12_takes.cls, .code yX12_takes cX12_takes 5 none], w ∈ lw_good := wl_ok (by decide +kernel)
theorem n_X12_takes_ok {R' : Type} {q : cL} {own : String} {d k : Nat} {f : Nat → Nat → Int32 → Int32 → cM → Option (cM)} (hl : Cond.methodLink own k yX12_takes ∈ lw_good) (hf : ∀ a0 a1 a2 a3 M r, f a0 a1 a2 a3 M = some r → CTx q yX12_takes (.code yX12_takes cX12_takes 5 none) d [.ref a0, .ref a1, .int a2, .int a3] M (eV r) ∧ ∃ fs, M[a0]? = some (.inr (10, fs))) : ceS q own d (3 * k + 1) (n_X12_takes (R' := R') f) := by
  intro as M κ κx r h
  unfold n_X12_takes at h
  split at h
  · obtain ⟨p, h1, h2⟩ := Option.bind_eq_some_iff.mp h
    obtain ⟨hc, fs, ha⟩ := hf _ _ _ _ _ _ h1
    exact ⟨eV p, fun _ => h2, fun hne => absurd rfl hne, Or.inr ⟨yX12_takes, cX12_takes, 5, none, k, 3, _, _, 10, TX12, 76, fs, rfl, rfl, hc, ha, rfl, List.forall_mem_cons.mpr ⟨hl, w_X12_takes⟩, ⟨rfl, by decide +kernel, by decide +kernel, by decide +kernel⟩, rfl, by decide⟩⟩
  · cases h
-- PatchbayScriptModel.place(I)I
def T_X12_place : List cRow := [(0, .iload_n 1, 1, 0), (1, .iconst 3, 2, 0), (2, .if_icmp .ge 17, 5, 19), (5, .iload_n 1, 6, 0), (6, .aload_n 0, 7, 0), (7, .getfield 214, 10, 0), (10, .if_icmp .gt 7, 13, 17), (13, .iload_n 1, 14, 0), (14, .goto 4, 17, 18), (17, .iconst (-1), 18, 0), (18, .ireturn, 19, 0), (19, .iload_n 1, 20, 0), (20, .bipush 6, 22, 0), (22, .if_icmp .ge 27, 25, 49), (25, .aload_n 0, 26, 0), (26, .getfield 214, 29, 0), (29, .iload_n 1, 30, 0), (30, .iconst 3, 31, 0), (31, .isub, 32, 0), (32, .isub, 33, 0), (33, .ifCond .lt 14, 36, 47), (36, .aload_n 0, 37, 0), (37, .getfield 214, 40, 0), (40, .iload_n 1, 41, 0), (41, .iconst 3, 42, 0), (42, .isub, 43, 0), (43, .isub, 44, 0), (44, .goto 4, 47, 48), (47, .iconst (-1), 48, 0), (48, .ireturn, 49, 0), (49, .iload_n 1, 50, 0), (50, .bipush 6, 52, 0), (52, .isub, 53, 0), (53, .bipush 6, 55, 0), (55, .idiv, 56, 0), (56, .istore_n 2, 57, 0), (57, .iload_n 1, 58, 0), (58, .bipush 6, 60, 0), (60, .isub, 61, 0), (61, .iconst 3, 62, 0), (62, .irem, 63, 0), (63, .istore_n 3, 64, 0), (64, .aload_n 0, 65, 0), (65, .getfield 116, 68, 0), (68, .iload_n 2, 69, 0), (69, .iaload, 70, 0), (70, .istore 4, 72, 0), (72, .iload 4, 74, 0), (74, .iload_n 3, 75, 0), (75, .iconst 1, 76, 0), (76, .if_icmp .ne 7, 79, 83), (79, .iconst 2, 80, 0), (80, .goto 4, 83, 84), (83, .iconst 1, 84, 0), (84, .if_icmp .ge 5, 87, 89), (87, .iconst (-1), 88, 0), (88, .ireturn, 89, 0), (89, .bipush 11, 91, 0), (91, .iload_n 2, 92, 0), (92, .imul, 93, 0), (93, .iload_n 3, 94, 0), (94, .iconst 2, 95, 0), (95, .if_icmp .ne 10, 98, 105), (98, .iload 4, 100, 0), (100, .iconst 1, 101, 0), (101, .isub, 102, 0), (102, .goto 4, 105, 106), (105, .iload_n 3, 106, 0), (106, .iadd, 107, 0), (107, .istore 5, 109, 0), (109, .iload_n 1, 110, 0), (110, .bipush 6, 112, 0), (112, .isub, 113, 0), (113, .bipush 6, 115, 0), (115, .irem, 116, 0), (116, .iconst 3, 117, 0), (117, .if_icmp .ge 13, 120, 130), (120, .aload_n 0, 121, 0), (121, .getfield 119, 124, 0), (124, .iload 5, 126, 0), (126, .iaload, 127, 0), (127, .goto 10, 130, 137), (130, .aload_n 0, 131, 0), (131, .getfield 122, 134, 0), (134, .iload 5, 136, 0), (136, .iaload, 137, 0), (137, .ireturn, 138, 0)]
theorem T_X12_place_ok : T_X12_place.all (rowB cX12_place) = true := by decide +kernel
def th_X12_place : List (Nat × Nat) := []
def sw_X12_place : List (Nat × (List (Int32 × Nat) × Nat)) := []
theorem sw_X12_place_ok : ∀ q ∈ sw_X12_place, swS cX12_place q := fun _ h => absurd h List.not_mem_nil
def na_X12_place : List (Nat × Nat) := []
def ca_X12_place {R' : Type} (F : Nat) : List (Nat × cFn R') := []
theorem ca_X12_place_ok {R' : Type} {q : cL} (hst : q.1.stackTraces = false) {D : Nat} (hD : 0 ≤ D) (F : Nat) : ∀ x ∈ (ca_X12_place (R' := R') F), 1 ≤ D ∧ ceS q RX12 (D - 1) x.1 x.2 := fun _ h => absurd h List.not_mem_nil
def kd_X12_place_84 (g : Nat → Int32 → Int32 → Int32 → Int32 → Int32 → Int32 → cM → Option (Int32 × cM)) : cKf (Int32 × cM) := fun vs st M => (lR vs 0).bind fun x0 => (lI vs 1).bind fun x1 => (lI vs 2).bind fun x2 => (lI vs 3).bind fun x3 => (lI vs 4).bind fun x4 => match st with
  | [.int s1, .int s0] => g x0 x1 x2 x3 x4 s0 s1 M
  | _ => none
theorem kf_X12_place_84 {X : cCtx} {o : cO} {r : Int32 × cM} {g : Nat → Int32 → Int32 → Int32 → Int32 → Int32 → Int32 → cM → Option (Int32 × cM)} (hg : ∀ x0 x1 x2 x3 x4 s0 s1 M, g x0 x1 x2 x3 x4 s0 s1 M = some r → WX X 6 o 84 [some (.ref x0), some (.int x1), some (.int x2), some (.int x3), some (.int x4), none] [.int s1, .int s0] M) : ∀ vs st M, kd_X12_place_84 g vs st M = some r → WX X 6 o 84 vs st M := by
  intro vs st M h
  unfold kd_X12_place_84 at h
  obtain ⟨x0, h0, h⟩ := Option.bind_eq_some_iff.mp h
  obtain ⟨x1, h1, h⟩ := Option.bind_eq_some_iff.mp h
  obtain ⟨x2, h2, h⟩ := Option.bind_eq_some_iff.mp h
  obtain ⟨x3, h3, h⟩ := Option.bind_eq_some_iff.mp h
  obtain ⟨x4, h4, h⟩ := Option.bind_eq_some_iff.mp h
  split at h
  · exact WX_weak (hg _ _ _ _ _ _ _ _ h) rfl ⟨lR_of h0, lI_of h1, lI_of h2, lI_of h3, lI_of h4, trivial⟩
  · cases h
def kd_X12_place_106 (g : Nat → Int32 → Int32 → Int32 → cM → Option (Int32 × cM)) : cKf (Int32 × cM) := fun vs st M => (lR vs 0).bind fun x0 => (lI vs 1).bind fun x1 => match st with
  | [.int s1, .int s0] => g x0 x1 s0 s1 M
  | _ => none
theorem kf_X12_place_106 {X : cCtx} {o : cO} {r : Int32 × cM} {g : Nat → Int32 → Int32 → Int32 → cM → Option (Int32 × cM)} (hg : ∀ x0 x1 s0 s1 M, g x0 x1 s0 s1 M = some r → WX X 6 o 106 [some (.ref x0), some (.int x1), none, none, none, none] [.int s1, .int s0] M) : ∀ vs st M, kd_X12_place_106 g vs st M = some r → WX X 6 o 106 vs st M := by
  intro vs st M h
  unfold kd_X12_place_106 at h
  obtain ⟨x0, h0, h⟩ := Option.bind_eq_some_iff.mp h
  obtain ⟨x1, h1, h⟩ := Option.bind_eq_some_iff.mp h
  split at h
  · exact WX_weak (hg _ _ _ _ _ h) rfl ⟨lR_of h0, lI_of h1, trivial⟩
  · cases h
def f_X12_place_106 (F : Nat) : Nat → Int32 → Int32 → Int32 → cM → Option (Int32 × cM) := fun x0 x1 s0 s1 M =>
  if (3 : Int32) ≤ (x1 - (6 : Int32)) - (x1 - (6 : Int32)) / (6 : Int32) * (6 : Int32) then (
  (fR M x0 10 44).bind fun v1 =>
  (aI 0 M v1 (s0 + s1)).bind fun v2 =>
  some (v2, M))
  else (
  (fR M x0 10 43).bind fun v3 =>
  (aI 0 M v3 (s0 + s1)).bind fun v4 =>
  some (v4, M))
set_option maxRecDepth 100000 in
theorem e_X12_place_106 (F : Nat) (x0 : Nat) (x1 : Int32) (s0 : Int32) (s1 : Int32) (M : cM) : f_X12_place_106 F x0 x1 s0 s1 M = run T_X12_place P_RX12 false 0 (naL na_X12_place) (caL (ca_X12_place F)) (lkN th_X12_place) (lkN sw_X12_place) krI kxN (spL []) (KL []) 90 106 [some (.ref x0), some (.int x1), none, none, none, none] [.int s1, .int s0] M := rfl
theorem ok_X12_place_106 {X : cCtx} {D : Nat} {r : Int32 × cM} (G : FX X 6 (eI r) cX12_place RX12 0 D) {F : Nat} (hca : ∀ x ∈ (ca_X12_place (R' := Int32 × cM) F), 1 ≤ D ∧ ceS X.1 RX12 (D - 1) x.1 x.2) : ∀ x0 x1 s0 s1 M, f_X12_place_106 F x0 x1 s0 s1 M = some r → WX X 6 (eI r) 106 [some (.ref x0), some (.int x1), none, none, none, none] [.int s1, .int s0] M := by
  intro x0 x1 s0 s1 M h
  exact seg_ok G P_RX12_ok T_X12_place_ok hca (fun _ h => absurd h List.not_mem_nil) sw_X12_place_ok krI_ok (kxN_ok (f := eI)) (fun _ h => absurd h List.not_mem_nil) ((e_X12_place_106 F x0 x1 s0 s1 M).symm.trans h)
def f_X12_place_84 (F : Nat) : Nat → Int32 → Int32 → Int32 → Int32 → Int32 → Int32 → cM → Option (Int32 × cM) := fun x0 x1 x2 x3 x4 s0 s1 M =>
  if s1 ≤ s0 then (
  if x3 = (2 : Int32) then (
  f_X12_place_106 F x0 x1 ((11 : Int32) * x2) (x4 - (1 : Int32)) M)
  else (
  f_X12_place_106 F x0 x1 ((11 : Int32) * x2) x3 M))
  else (
  some ((-1 : Int32), M))
set_option maxRecDepth 100000 in
theorem e_X12_place_84 (F : Nat) (x0 : Nat) (x1 : Int32) (x2 : Int32) (x3 : Int32) (x4 : Int32) (s0 : Int32) (s1 : Int32) (M : cM) : f_X12_place_84 F x0 x1 x2 x3 x4 s0 s1 M = run T_X12_place P_RX12 false 0 (naL na_X12_place) (caL (ca_X12_place F)) (lkN th_X12_place) (lkN sw_X12_place) krI kxN (spL [106]) (KL [(106, kd_X12_place_106 (f_X12_place_106 F))]) 90 84 [some (.ref x0), some (.int x1), some (.int x2), some (.int x3), some (.int x4), none] [.int s1, .int s0] M := rfl
theorem ok_X12_place_84 {X : cCtx} {D : Nat} {r : Int32 × cM} (G : FX X 6 (eI r) cX12_place RX12 0 D) {F : Nat} (hca : ∀ x ∈ (ca_X12_place (R' := Int32 × cM) F), 1 ≤ D ∧ ceS X.1 RX12 (D - 1) x.1 x.2) : ∀ x0 x1 x2 x3 x4 s0 s1 M, f_X12_place_84 F x0 x1 x2 x3 x4 s0 s1 M = some r → WX X 6 (eI r) 84 [some (.ref x0), some (.int x1), some (.int x2), some (.int x3), some (.int x4), none] [.int s1, .int s0] M := by
  intro x0 x1 x2 x3 x4 s0 s1 M h
  exact seg_ok G P_RX12_ok T_X12_place_ok hca (fun _ h => absurd h List.not_mem_nil) sw_X12_place_ok krI_ok (kxN_ok (f := eI)) (List.forall_mem_cons.mpr ⟨kf_X12_place_106 (ok_X12_place_106 G hca), fun _ h => absurd h List.not_mem_nil⟩) ((e_X12_place_84 F x0 x1 x2 x3 x4 s0 s1 M).symm.trans h)
def f_X12_place_0 (F : Nat) : Nat → Int32 → cM → Option (Int32 × cM) := fun x0 x1 M =>
  if (3 : Int32) ≤ x1 then (
  if (6 : Int32) ≤ x1 then (
  let v1 : Int32 := (x1 - (6 : Int32)) / (6 : Int32)
  let v2 : Int32 := (x1 - (6 : Int32)) - (x1 - (6 : Int32)) / (3 : Int32) * (3 : Int32)
  (fR M x0 10 42).bind fun v3 =>
  (aI 0 M v3 v1).bind fun v4 =>
  if v2 = (1 : Int32) then (
  f_X12_place_84 F x0 x1 v1 v2 v4 v4 (2 : Int32) M)
  else (
  f_X12_place_84 F x0 x1 v1 v2 v4 v4 (1 : Int32) M))
  else (
  (fI M x0 10 40).bind fun v5 =>
  if v5 - (x1 - (3 : Int32)) < 0 then (
  some ((-1 : Int32), M))
  else (
  (fI M x0 10 40).bind fun v6 =>
  some (v6 - (x1 - (3 : Int32)), M))))
  else (
  (fI M x0 10 40).bind fun v7 =>
  if v7 < x1 then (
  some ((-1 : Int32), M))
  else (
  some (x1, M)))
set_option maxRecDepth 100000 in
theorem e_X12_place_0 (F : Nat) (x0 : Nat) (x1 : Int32) (M : cM) : f_X12_place_0 F x0 x1 M = run T_X12_place P_RX12 false 0 (naL na_X12_place) (caL (ca_X12_place F)) (lkN th_X12_place) (lkN sw_X12_place) krI kxN (spL [84]) (KL [(84, kd_X12_place_84 (f_X12_place_84 F))]) 90 0 [some (.ref x0), some (.int x1), none, none, none, none] [] M := rfl
theorem ok_X12_place_0 {X : cCtx} {D : Nat} {r : Int32 × cM} (G : FX X 6 (eI r) cX12_place RX12 0 D) {F : Nat} (hca : ∀ x ∈ (ca_X12_place (R' := Int32 × cM) F), 1 ≤ D ∧ ceS X.1 RX12 (D - 1) x.1 x.2) : ∀ x0 x1 M, f_X12_place_0 F x0 x1 M = some r → WX X 6 (eI r) 0 [some (.ref x0), some (.int x1), none, none, none, none] [] M := by
  intro x0 x1 M h
  exact seg_ok G P_RX12_ok T_X12_place_ok hca (fun _ h => absurd h List.not_mem_nil) sw_X12_place_ok krI_ok (kxN_ok (f := eI)) (List.forall_mem_cons.mpr ⟨kf_X12_place_84 (ok_X12_place_84 G hca), fun _ h => absurd h List.not_mem_nil⟩) ((e_X12_place_0 F x0 x1 M).symm.trans h)
def f_X12_place (F : Nat) : Nat → Int32 → cM → Option (Int32 × cM) := fun a0 a1 M => if isC M a0 10 = true then f_X12_place_0 F a0 a1 M else none
theorem c_X12_place {q : cL} (hst : q.1.stackTraces = false) {D : Nat} (hD : 0 ≤ D) (F : Nat) (a0 : Nat) (a1 : Int32) (M : cM) (r : Int32 × cM) (h : f_X12_place F a0 a1 M = some r) : CTx q yX12_place (.code yX12_place cX12_place 6 (some .int)) D [.ref a0, .int a1] M (eI r) ∧ ∃ fs, M[a0]? = some (.inr (10, fs)) := by
  unfold f_X12_place at h
  split at h
  · next hi => exact ⟨CTx_of (own := RX12) (rk := 0) hst (by decide +kernel) rfl (rfl) (Nat.le_of_ble_eq_true rfl) (fun X hX G => by subst hX; exact ok_X12_place_0 G (ca_X12_place_ok hst hD F) a0 a1 M h), isC_of hi⟩
  · cases h
def n_X12_place {R' : Type} (f : Nat → Int32 → cM → Option (Int32 × cM)) : cFn R' := fun as M κ κx => match as with
  | [.ref a0, .int a1] => (f a0 a1 M).bind fun p => κ (some (.int p.1)) p.2
  | _ => none
theorem w_X12_place : ∀ w ∈ [Cond.instanceMethod yX12_place, .selects yX12_place.cls yX12_place yX12_place, .initialized yX12_place.cls, .code yX12_place cX12_place 6 (some .int)], w ∈ lw_good := wl_ok (by decide +kernel)
theorem n_X12_place_ok {R' : Type} {q : cL} {own : String} {d k : Nat} {f : Nat → Int32 → cM → Option (Int32 × cM)} (hl : Cond.methodLink own k yX12_place ∈ lw_good) (hf : ∀ a0 a1 M r, f a0 a1 M = some r → CTx q yX12_place (.code yX12_place cX12_place 6 (some .int)) d [.ref a0, .int a1] M (eI r) ∧ ∃ fs, M[a0]? = some (.inr (10, fs))) : ceS q own d (3 * k + 1) (n_X12_place (R' := R') f) := by
  intro as M κ κx r h
  unfold n_X12_place at h
  split at h
  · obtain ⟨p, h1, h2⟩ := Option.bind_eq_some_iff.mp h
    obtain ⟨hc, fs, ha⟩ := hf _ _ _ _ h1
    exact ⟨eI p, fun _ => h2, fun hne => absurd rfl hne, Or.inr ⟨yX12_place, cX12_place, 6, (some .int), k, 1, _, _, 10, TX12, 76, fs, rfl, rfl, hc, ha, rfl, List.forall_mem_cons.mpr ⟨hl, w_X12_place⟩, ⟨rfl, by decide +kernel, by decide +kernel, by decide +kernel⟩, rfl, by decide⟩⟩
  · cases h
-- PatchbayScriptModel.spotWeight(I)I
def T_X12_spotWeight : List cRow := [(0, .iload_n 0, 1, 0), (1, .bipush 6, 3, 0), (3, .if_icmp .ge 11, 6, 14), (6, .iconst 3, 7, 0), (7, .iload_n 0, 8, 0), (8, .iconst 3, 9, 0), (9, .irem, 10, 0), (10, .iadd, 11, 0), (11, .goto 18, 14, 29), (14, .iload_n 0, 15, 0), (15, .bipush 6, 17, 0), (17, .isub, 18, 0), (18, .iconst 3, 19, 0), (19, .irem, 20, 0), (20, .iconst 1, 21, 0), (21, .if_icmp .ne 7, 24, 28), (24, .iconst 2, 25, 0), (25, .goto 4, 28, 29), (28, .iconst 1, 29, 0), (29, .ireturn, 30, 0)]
theorem T_X12_spotWeight_ok : T_X12_spotWeight.all (rowB cX12_spotWeight) = true := by decide +kernel
def th_X12_spotWeight : List (Nat × Nat) := []
def sw_X12_spotWeight : List (Nat × (List (Int32 × Nat) × Nat)) := []
theorem sw_X12_spotWeight_ok : ∀ q ∈ sw_X12_spotWeight, swS cX12_spotWeight q := fun _ h => absurd h List.not_mem_nil
def na_X12_spotWeight : List (Nat × Nat) := []
def ca_X12_spotWeight {R' : Type} (F : Nat) : List (Nat × cFn R') := []
theorem ca_X12_spotWeight_ok {R' : Type} {q : cL} (hst : q.1.stackTraces = false) {D : Nat} (hD : 0 ≤ D) (F : Nat) : ∀ x ∈ (ca_X12_spotWeight (R' := R') F), 1 ≤ D ∧ ceS q RX12 (D - 1) x.1 x.2 := fun _ h => absurd h List.not_mem_nil
def f_X12_spotWeight_0 (F : Nat) : Int32 → cM → Option (Int32 × cM) := fun x0 M =>
  if (6 : Int32) ≤ x0 then (
  if (x0 - (6 : Int32)) - (x0 - (6 : Int32)) / (3 : Int32) * (3 : Int32) = (1 : Int32) then (
  some ((2 : Int32), M))
  else (
  some ((1 : Int32), M)))
  else (
  some ((3 : Int32) + (x0 - x0 / (3 : Int32) * (3 : Int32)), M))
set_option maxRecDepth 100000 in
theorem e_X12_spotWeight_0 (F : Nat) (x0 : Int32) (M : cM) : f_X12_spotWeight_0 F x0 M = run T_X12_spotWeight P_RX12 false 0 (naL na_X12_spotWeight) (caL (ca_X12_spotWeight F)) (lkN th_X12_spotWeight) (lkN sw_X12_spotWeight) krI kxN (spL []) (KL []) 23 0 [some (.int x0)] [] M := rfl
theorem ok_X12_spotWeight_0 {X : cCtx} {D : Nat} {r : Int32 × cM} (G : FX X 1 (eI r) cX12_spotWeight RX12 0 D) {F : Nat} (hca : ∀ x ∈ (ca_X12_spotWeight (R' := Int32 × cM) F), 1 ≤ D ∧ ceS X.1 RX12 (D - 1) x.1 x.2) : ∀ x0 M, f_X12_spotWeight_0 F x0 M = some r → WX X 1 (eI r) 0 [some (.int x0)] [] M := by
  intro x0 M h
  exact seg_ok G P_RX12_ok T_X12_spotWeight_ok hca (fun _ h => absurd h List.not_mem_nil) sw_X12_spotWeight_ok krI_ok (kxN_ok (f := eI)) (fun _ h => absurd h List.not_mem_nil) ((e_X12_spotWeight_0 F x0 M).symm.trans h)
def f_X12_spotWeight (F : Nat) : Int32 → cM → Option (Int32 × cM) := fun a0 M => f_X12_spotWeight_0 F a0 M
theorem c_X12_spotWeight {q : cL} (hst : q.1.stackTraces = false) {D : Nat} (hD : 0 ≤ D) (F : Nat) (a0 : Int32) (M : cM) (r : Int32 × cM) (h : f_X12_spotWeight F a0 M = some r) : CTx q yX12_spotWeight (.code yX12_spotWeight cX12_spotWeight 1 (some .int)) D [.int a0] M (eI r) := by
  exact CTx_of (own := RX12) (rk := 0) hst (by decide +kernel) rfl (rfl) (Nat.le_of_ble_eq_true rfl) (fun X hX G => by subst hX; exact ok_X12_spotWeight_0 G (ca_X12_spotWeight_ok hst hD F) a0 M h)
def n_X12_spotWeight {R' : Type} (f : Int32 → cM → Option (Int32 × cM)) : cFn R' := fun as M κ κx => match as with
  | [.int a0] => (f a0 M).bind fun p => κ (some (.int p.1)) p.2
  | _ => none
theorem w_X12_spotWeight : ∀ w ∈ [Cond.static yX12_spotWeight, .initialized yX12_spotWeight.cls, .code yX12_spotWeight cX12_spotWeight 1 (some .int)], w ∈ lw_good := wl_ok (by decide +kernel)
theorem n_X12_spotWeight_ok {R' : Type} {q : cL} {own : String} {d k : Nat} {f : Int32 → cM → Option (Int32 × cM)} (hl : Cond.methodLink own k yX12_spotWeight ∈ lw_good) (hf : ∀ a0 M r, f a0 M = some r → CTx q yX12_spotWeight (.code yX12_spotWeight cX12_spotWeight 1 (some .int)) d [.int a0] M (eI r)) : ceS q own d (3 * k) (n_X12_spotWeight (R' := R') f) := by
  intro as M κ κx r h
  unfold n_X12_spotWeight at h
  split at h
  · obtain ⟨p, h1, h2⟩ := Option.bind_eq_some_iff.mp h
    exact ⟨eI p, fun _ => h2, fun hne => absurd rfl hne, Or.inl ⟨yX12_spotWeight, cX12_spotWeight, 1, (some .int), k, 1, rfl, hf _ _ _ h1, List.forall_mem_cons.mpr ⟨hl, w_X12_spotWeight⟩, ⟨by decide +kernel, by decide +kernel, by decide +kernel⟩, rfl, by decide⟩⟩
  · cases h
-- PatchbayScriptModel.atomWeight(IIII)I
def T_X12_atomWeight : List cRow := [(0, .iload_n 0, 1, 0), (1, .ifCond .ne 11, 4, 12), (4, .iconst 4, 5, 0), (5, .iconst 3, 6, 0), (6, .iload_n 1, 7, 0), (7, .imul, 8, 0), (8, .iadd, 9, 0), (9, .goto 54, 12, 63), (12, .iload_n 0, 13, 0), (13, .iconst 1, 14, 0), (14, .if_icmp .ne 27, 17, 41), (17, .iconst 2, 18, 0), (18, .iload_n 1, 19, 0), (19, .invokestatic 224, 22, 0), (22, .iadd, 23, 0), (23, .iload_n 2, 24, 0), (24, .invokestatic 224, 27, 0), (27, .iadd, 28, 0), (28, .iload_n 3, 29, 0), (29, .ifCond .le 7, 32, 36), (32, .iconst 2, 33, 0), (33, .goto 4, 36, 37), (36, .iconst 0, 37, 0), (37, .iadd, 38, 0), (38, .goto 25, 41, 63), (41, .bipush 6, 43, 0), (43, .iload_n 2, 44, 0), (44, .ifCond .le 7, 47, 51), (47, .iconst 1, 48, 0), (48, .goto 4, 51, 52), (51, .iconst 0, 52, 0), (52, .iadd, 53, 0), (53, .iload_n 3, 54, 0), (54, .ifCond .le 7, 57, 61), (57, .iconst 1, 58, 0), (58, .goto 4, 61, 62), (61, .iconst 0, 62, 0), (62, .iadd, 63, 0), (63, .ireturn, 64, 0)]
theorem T_X12_atomWeight_ok : T_X12_atomWeight.all (rowB cX12_atomWeight) = true := by decide +kernel
def th_X12_atomWeight : List (Nat × Nat) := []
def sw_X12_atomWeight : List (Nat × (List (Int32 × Nat) × Nat)) := []
theorem sw_X12_atomWeight_ok : ∀ q ∈ sw_X12_atomWeight, swS cX12_atomWeight q := fun _ h => absurd h List.not_mem_nil
def na_X12_atomWeight : List (Nat × Nat) := [(672, 1)]
def ca_X12_atomWeight {R' : Type} (F : Nat) : List (Nat × cFn R') := [(672, n_X12_spotWeight (f_X12_spotWeight F))]
theorem ca_X12_atomWeight_ok {R' : Type} {q : cL} (hst : q.1.stackTraces = false) {D : Nat} (hD : 1 ≤ D) (F : Nat) : ∀ x ∈ (ca_X12_atomWeight (R' := R') F), 1 ≤ D ∧ ceS q RX12 (D - 1) x.1 x.2 := List.forall_mem_cons.mpr ⟨⟨by omega, n_X12_spotWeight_ok (k := 224) (ml_ok RX12 224 yX12_spotWeight (by decide +kernel)) (fun a0 M r h => c_X12_spotWeight hst (by omega) F a0 M r h)⟩, fun _ h => absurd h List.not_mem_nil⟩
def kd_X12_atomWeight_52 (g : Int32 → Int32 → Int32 → cM → Option (Int32 × cM)) : cKf (Int32 × cM) := fun vs st M => (lI vs 3).bind fun x3 => match st with
  | [.int s1, .int s0] => g x3 s0 s1 M
  | _ => none
theorem kf_X12_atomWeight_52 {X : cCtx} {o : cO} {r : Int32 × cM} {g : Int32 → Int32 → Int32 → cM → Option (Int32 × cM)} (hg : ∀ x3 s0 s1 M, g x3 s0 s1 M = some r → WX X 4 o 52 [none, none, none, some (.int x3)] [.int s1, .int s0] M) : ∀ vs st M, kd_X12_atomWeight_52 g vs st M = some r → WX X 4 o 52 vs st M := by
  intro vs st M h
  unfold kd_X12_atomWeight_52 at h
  obtain ⟨x3, h3, h⟩ := Option.bind_eq_some_iff.mp h
  split at h
  · exact WX_weak (hg _ _ _ _ h) rfl ⟨lI_of h3, trivial⟩
  · cases h
def f_X12_atomWeight_52 (F : Nat) : Int32 → Int32 → Int32 → cM → Option (Int32 × cM) := fun x3 s0 s1 M =>
  if x3 ≤ 0 then (
  some ((s0 + s1) + (0 : Int32), M))
  else (
  some ((s0 + s1) + (1 : Int32), M))
set_option maxRecDepth 100000 in
theorem e_X12_atomWeight_52 (F : Nat) (x3 : Int32) (s0 : Int32) (s1 : Int32) (M : cM) : f_X12_atomWeight_52 F x3 s0 s1 M = run T_X12_atomWeight P_RX12 false 0 (naL na_X12_atomWeight) (caL (ca_X12_atomWeight F)) (lkN th_X12_atomWeight) (lkN sw_X12_atomWeight) krI kxN (spL []) (KL []) 42 52 [none, none, none, some (.int x3)] [.int s1, .int s0] M := rfl
theorem ok_X12_atomWeight_52 {X : cCtx} {D : Nat} {r : Int32 × cM} (G : FX X 4 (eI r) cX12_atomWeight RX12 0 D) {F : Nat} (hca : ∀ x ∈ (ca_X12_atomWeight (R' := Int32 × cM) F), 1 ≤ D ∧ ceS X.1 RX12 (D - 1) x.1 x.2) : ∀ x3 s0 s1 M, f_X12_atomWeight_52 F x3 s0 s1 M = some r → WX X 4 (eI r) 52 [none, none, none, some (.int x3)] [.int s1, .int s0] M := by
  intro x3 s0 s1 M h
  exact seg_ok G P_RX12_ok T_X12_atomWeight_ok hca (fun _ h => absurd h List.not_mem_nil) sw_X12_atomWeight_ok krI_ok (kxN_ok (f := eI)) (fun _ h => absurd h List.not_mem_nil) ((e_X12_atomWeight_52 F x3 s0 s1 M).symm.trans h)
def f_X12_atomWeight_0 (F : Nat) : Int32 → Int32 → Int32 → Int32 → cM → Option (Int32 × cM) := fun x0 x1 x2 x3 M =>
  if x0 = 0 then (
  some ((4 : Int32) + ((3 : Int32) * x1), M))
  else (
  if x0 = (1 : Int32) then (
  (f_X12_spotWeight F x1 M).bind fun v1 =>
  (f_X12_spotWeight F x2 v1.2).bind fun v2 =>
  if x3 ≤ 0 then (
  some ((((2 : Int32) + v1.1) + v2.1) + (0 : Int32), v2.2))
  else (
  some ((((2 : Int32) + v1.1) + v2.1) + (2 : Int32), v2.2)))
  else (
  if x2 ≤ 0 then (
  f_X12_atomWeight_52 F x3 (6 : Int32) (0 : Int32) M)
  else (
  f_X12_atomWeight_52 F x3 (6 : Int32) (1 : Int32) M)))
set_option maxRecDepth 100000 in
theorem e_X12_atomWeight_0 (F : Nat) (x0 : Int32) (x1 : Int32) (x2 : Int32) (x3 : Int32) (M : cM) : f_X12_atomWeight_0 F x0 x1 x2 x3 M = run T_X12_atomWeight P_RX12 false 0 (naL na_X12_atomWeight) (caL (ca_X12_atomWeight F)) (lkN th_X12_atomWeight) (lkN sw_X12_atomWeight) krI kxN (spL [52]) (KL [(52, kd_X12_atomWeight_52 (f_X12_atomWeight_52 F))]) 42 0 [some (.int x0), some (.int x1), some (.int x2), some (.int x3)] [] M := rfl
theorem ok_X12_atomWeight_0 {X : cCtx} {D : Nat} {r : Int32 × cM} (G : FX X 4 (eI r) cX12_atomWeight RX12 0 D) {F : Nat} (hca : ∀ x ∈ (ca_X12_atomWeight (R' := Int32 × cM) F), 1 ≤ D ∧ ceS X.1 RX12 (D - 1) x.1 x.2) : ∀ x0 x1 x2 x3 M, f_X12_atomWeight_0 F x0 x1 x2 x3 M = some r → WX X 4 (eI r) 0 [some (.int x0), some (.int x1), some (.int x2), some (.int x3)] [] M := by
  intro x0 x1 x2 x3 M h
  exact seg_ok G P_RX12_ok T_X12_atomWeight_ok hca (fun _ h => absurd h List.not_mem_nil) sw_X12_atomWeight_ok krI_ok (kxN_ok (f := eI)) (List.forall_mem_cons.mpr ⟨kf_X12_atomWeight_52 (ok_X12_atomWeight_52 G hca), fun _ h => absurd h List.not_mem_nil⟩) ((e_X12_atomWeight_0 F x0 x1 x2 x3 M).symm.trans h)
def f_X12_atomWeight (F : Nat) : Int32 → Int32 → Int32 → Int32 → cM → Option (Int32 × cM) := fun a0 a1 a2 a3 M => f_X12_atomWeight_0 F a0 a1 a2 a3 M
theorem c_X12_atomWeight {q : cL} (hst : q.1.stackTraces = false) {D : Nat} (hD : 1 ≤ D) (F : Nat) (a0 : Int32) (a1 : Int32) (a2 : Int32) (a3 : Int32) (M : cM) (r : Int32 × cM) (h : f_X12_atomWeight F a0 a1 a2 a3 M = some r) : CTx q yX12_atomWeight (.code yX12_atomWeight cX12_atomWeight 4 (some .int)) D [.int a0, .int a1, .int a2, .int a3] M (eI r) := by
  exact CTx_of (own := RX12) (rk := 0) hst (by decide +kernel) rfl (rfl) (Nat.le_of_ble_eq_true rfl) (fun X hX G => by subst hX; exact ok_X12_atomWeight_0 G (ca_X12_atomWeight_ok hst hD F) a0 a1 a2 a3 M h)
def n_X12_atomWeight {R' : Type} (f : Int32 → Int32 → Int32 → Int32 → cM → Option (Int32 × cM)) : cFn R' := fun as M κ κx => match as with
  | [.int a0, .int a1, .int a2, .int a3] => (f a0 a1 a2 a3 M).bind fun p => κ (some (.int p.1)) p.2
  | _ => none
theorem w_X12_atomWeight : ∀ w ∈ [Cond.static yX12_atomWeight, .initialized yX12_atomWeight.cls, .code yX12_atomWeight cX12_atomWeight 4 (some .int)], w ∈ lw_good := wl_ok (by decide +kernel)
theorem n_X12_atomWeight_ok {R' : Type} {q : cL} {own : String} {d k : Nat} {f : Int32 → Int32 → Int32 → Int32 → cM → Option (Int32 × cM)} (hl : Cond.methodLink own k yX12_atomWeight ∈ lw_good) (hf : ∀ a0 a1 a2 a3 M r, f a0 a1 a2 a3 M = some r → CTx q yX12_atomWeight (.code yX12_atomWeight cX12_atomWeight 4 (some .int)) d [.int a0, .int a1, .int a2, .int a3] M (eI r)) : ceS q own d (3 * k) (n_X12_atomWeight (R' := R') f) := by
  intro as M κ κx r h
  unfold n_X12_atomWeight at h
  split at h
  · obtain ⟨p, h1, h2⟩ := Option.bind_eq_some_iff.mp h
    exact ⟨eI p, fun _ => h2, fun hne => absurd rfl hne, Or.inl ⟨yX12_atomWeight, cX12_atomWeight, 4, (some .int), k, 4, rfl, hf _ _ _ _ _ _ h1, List.forall_mem_cons.mpr ⟨hl, w_X12_atomWeight⟩, ⟨by decide +kernel, by decide +kernel, by decide +kernel⟩, rfl, by decide⟩⟩
  · cases h
-- PatchbayScriptModel.adds(I)V
def T_X12_adds : List cRow := [(0, .aload_n 0, 1, 0), (1, .getfield 125, 4, 0), (4, .aload_n 0, 5, 0), (5, .getfield 228, 8, 0), (8, .iload_n 1, 9, 0), (9, .iastore, 10, 0), (10, .aload_n 0, 11, 0), (11, .dup, 12, 0), (12, .getfield 228, 15, 0), (15, .iconst 1, 16, 0), (16, .iadd, 17, 0), (17, .putfield 228, 20, 0), (20, .return_, 21, 0)]
theorem T_X12_adds_ok : T_X12_adds.all (rowB cX12_adds) = true := by decide +kernel
def th_X12_adds : List (Nat × Nat) := []
def sw_X12_adds : List (Nat × (List (Int32 × Nat) × Nat)) := []
theorem sw_X12_adds_ok : ∀ q ∈ sw_X12_adds, swS cX12_adds q := fun _ h => absurd h List.not_mem_nil
def na_X12_adds : List (Nat × Nat) := []
def ca_X12_adds {R' : Type} (F : Nat) : List (Nat × cFn R') := []
theorem ca_X12_adds_ok {R' : Type} {q : cL} (hst : q.1.stackTraces = false) {D : Nat} (hD : 0 ≤ D) (F : Nat) : ∀ x ∈ (ca_X12_adds (R' := R') F), 1 ≤ D ∧ ceS q RX12 (D - 1) x.1 x.2 := fun _ h => absurd h List.not_mem_nil
def f_X12_adds_0 (F : Nat) : Nat → Int32 → cM → Option (cM) := fun x0 x1 M =>
  (fR M x0 10 46).bind fun v1 =>
  (fI M x0 10 45).bind fun v2 =>
  (sI 0 M v1 v2 x1).bind fun M3 =>
  (fI M3 x0 10 45).bind fun v4 =>
  (pF M3 x0 10 45 (.int (v4 + (1 : Int32)))).bind fun M5 =>
  some M5
set_option maxRecDepth 100000 in
theorem e_X12_adds_0 (F : Nat) (x0 : Nat) (x1 : Int32) (M : cM) : f_X12_adds_0 F x0 x1 M = run T_X12_adds P_RX12 false 5 (naL na_X12_adds) (caL (ca_X12_adds F)) (lkN th_X12_adds) (lkN sw_X12_adds) krV kxN (spL []) (KL []) 16 0 [some (.ref x0), some (.int x1)] [] M := rfl
theorem ok_X12_adds_0 {X : cCtx} {D : Nat} {r : cM} (G : FX X 2 (eV r) cX12_adds RX12 5 D) {F : Nat} (hca : ∀ x ∈ (ca_X12_adds (R' := cM) F), 1 ≤ D ∧ ceS X.1 RX12 (D - 1) x.1 x.2) : ∀ x0 x1 M, f_X12_adds_0 F x0 x1 M = some r → WX X 2 (eV r) 0 [some (.ref x0), some (.int x1)] [] M := by
  intro x0 x1 M h
  exact seg_ok G P_RX12_ok T_X12_adds_ok hca (fun _ h => absurd h List.not_mem_nil) sw_X12_adds_ok krV_ok (kxN_ok (f := eV)) (fun _ h => absurd h List.not_mem_nil) ((e_X12_adds_0 F x0 x1 M).symm.trans h)
def f_X12_adds (F : Nat) : Nat → Int32 → cM → Option (cM) := fun a0 a1 M => if isC M a0 10 = true then f_X12_adds_0 F a0 a1 M else none
theorem c_X12_adds {q : cL} (hst : q.1.stackTraces = false) {D : Nat} (hD : 0 ≤ D) (F : Nat) (a0 : Nat) (a1 : Int32) (M : cM) (r : cM) (h : f_X12_adds F a0 a1 M = some r) : CTx q yX12_adds (.code yX12_adds cX12_adds 2 none) D [.ref a0, .int a1] M (eV r) ∧ ∃ fs, M[a0]? = some (.inr (10, fs)) := by
  unfold f_X12_adds at h
  split at h
  · next hi => exact ⟨CTx_of (own := RX12) (rk := 5) hst (by decide +kernel) rfl (rfl) (Nat.le_of_ble_eq_true rfl) (fun X hX G => by subst hX; exact ok_X12_adds_0 G (ca_X12_adds_ok hst hD F) a0 a1 M h), isC_of hi⟩
  · cases h
def n_X12_adds {R' : Type} (f : Nat → Int32 → cM → Option (cM)) : cFn R' := fun as M κ κx => match as with
  | [.ref a0, .int a1] => (f a0 a1 M).bind fun p => κ none p
  | _ => none
theorem w_X12_adds : ∀ w ∈ [Cond.instanceMethod yX12_adds, .selects yX12_adds.cls yX12_adds yX12_adds, .initialized yX12_adds.cls, .code yX12_adds cX12_adds 2 none], w ∈ lw_good := wl_ok (by decide +kernel)
theorem n_X12_adds_ok {R' : Type} {q : cL} {own : String} {d k : Nat} {f : Nat → Int32 → cM → Option (cM)} (hl : Cond.methodLink own k yX12_adds ∈ lw_good) (hf : ∀ a0 a1 M r, f a0 a1 M = some r → CTx q yX12_adds (.code yX12_adds cX12_adds 2 none) d [.ref a0, .int a1] M (eV r) ∧ ∃ fs, M[a0]? = some (.inr (10, fs))) : ceS q own d (3 * k + 1) (n_X12_adds (R' := R') f) := by
  intro as M κ κx r h
  unfold n_X12_adds at h
  split at h
  · obtain ⟨p, h1, h2⟩ := Option.bind_eq_some_iff.mp h
    obtain ⟨hc, fs, ha⟩ := hf _ _ _ _ h1
    exact ⟨eV p, fun _ => h2, fun hne => absurd rfl hne, Or.inr ⟨yX12_adds, cX12_adds, 2, none, k, 1, _, _, 10, TX12, 76, fs, rfl, rfl, hc, ha, rfl, List.forall_mem_cons.mpr ⟨hl, w_X12_adds⟩, ⟨rfl, by decide +kernel, by decide +kernel, by decide +kernel⟩, rfl, by decide⟩⟩
  · cases h
-- PatchbayScriptModel.cuts(III)Z
def T_X12_cuts : List cRow := [(0, .aload_n 0, 1, 0), (1, .iload_n 1, 2, 0), (2, .invokevirtual 231, 5, 0), (5, .istore 4, 7, 0), (7, .aload_n 0, 8, 0), (8, .iload_n 2, 9, 0), (9, .invokevirtual 231, 12, 0), (12, .istore 5, 14, 0), (14, .iload 4, 16, 0), (16, .iconst (-1), 17, 0), (17, .if_icmp .eq 16, 20, 33), (20, .iload 5, 22, 0), (22, .iconst (-1), 23, 0), (23, .if_icmp .eq 10, 26, 33), (26, .iload 4, 28, 0), (28, .iload 5, 30, 0), (30, .if_icmp .lt 5, 33, 35), (33, .iconst 0, 34, 0), (34, .ireturn, 35, 0), (35, .iload 4, 37, 0), (37, .istore 6, 39, 0), (39, .iload 6, 41, 0), (41, .iload 5, 43, 0), (43, .if_icmp .ge 67, 46, 110), (46, .aload_n 0, 47, 0), (47, .iload_n 3, 48, 0), (48, .ifCond .ne 13, 51, 61), (51, .aload_n 0, 52, 0), (52, .getfield 113, 55, 0), (55, .iload 6, 57, 0), (57, .iaload, 58, 0), (58, .goto 43, 61, 101), (61, .iload_n 3, 62, 0), (62, .iconst 1, 63, 0), (63, .if_icmp .eq 15, 66, 78), (66, .iload_n 3, 67, 0), (67, .iconst 3, 68, 0), (68, .if_icmp .ne 23, 71, 91), (71, .iload 6, 73, 0), (73, .iload 4, 75, 0), (75, .if_icmp .ne 16, 78, 91), (78, .aload_n 0, 79, 0), (79, .getfield 113, 82, 0), (82, .iload 6, 84, 0), (84, .iaload, 85, 0), (85, .invokestatic 234, 88, 0), (88, .goto 13, 91, 101), (91, .aload_n 0, 92, 0), (92, .getfield 113, 95, 0), (95, .iload 6, 97, 0), (97, .iaload, 98, 0), (98, .invokestatic 237, 101, 0), (101, .invokevirtual 240, 104, 0), (104, .iinc 6 1, 107, 0), (107, .goto (-68), 110, 39), (110, .iconst 1, 111, 0), (111, .ireturn, 112, 0)]
theorem T_X12_cuts_ok : T_X12_cuts.all (rowB cX12_cuts) = true := by decide +kernel
def th_X12_cuts : List (Nat × Nat) := []
def sw_X12_cuts : List (Nat × (List (Int32 × Nat) × Nat)) := []
theorem sw_X12_cuts_ok : ∀ q ∈ sw_X12_cuts, swS cX12_cuts q := fun _ h => absurd h List.not_mem_nil
def na_X12_cuts : List (Nat × Nat) := [(694, 2), (702, 1), (711, 1), (721, 2)]
def ca_X12_cuts {R' : Type} (F : Nat) : List (Nat × cFn R') := [(694, n_X12_place (f_X12_place F)), (702, n_X12_upper (f_X12_upper F)), (711, n_X12_lower (f_X12_lower F)), (721, n_X12_adds (f_X12_adds F))]
theorem ca_X12_cuts_ok {R' : Type} {q : cL} (hst : q.1.stackTraces = false) {D : Nat} (hD : 2 ≤ D) (F : Nat) : ∀ x ∈ (ca_X12_cuts (R' := R') F), 1 ≤ D ∧ ceS q RX12 (D - 1) x.1 x.2 := List.forall_mem_cons.mpr ⟨⟨by omega, n_X12_place_ok (k := 231) (ml_ok RX12 231 yX12_place (by decide +kernel)) (fun a0 a1 M r h => c_X12_place hst (by omega) F a0 a1 M r h)⟩, List.forall_mem_cons.mpr ⟨⟨by omega, n_X12_upper_ok (k := 234) (ml_ok RX12 234 yX12_upper (by decide +kernel)) (fun a0 M r h => c_X12_upper hst (by omega) F a0 M r h)⟩, List.forall_mem_cons.mpr ⟨⟨by omega, n_X12_lower_ok (k := 237) (ml_ok RX12 237 yX12_lower (by decide +kernel)) (fun a0 M r h => c_X12_lower hst (by omega) F a0 M r h)⟩, List.forall_mem_cons.mpr ⟨⟨by omega, n_X12_adds_ok (k := 240) (ml_ok RX12 240 yX12_adds (by decide +kernel)) (fun a0 a1 M r h => c_X12_adds hst (by omega) F a0 a1 M r h)⟩, fun _ h => absurd h List.not_mem_nil⟩⟩⟩⟩
def kd_X12_cuts_39 (g : Nat → Int32 → Int32 → Int32 → Int32 → cM → Option (Int32 × cM)) : cKf (Int32 × cM) := fun vs st M => (lR vs 0).bind fun x0 => (lI vs 3).bind fun x3 => (lI vs 4).bind fun x4 => (lI vs 5).bind fun x5 => (lI vs 6).bind fun x6 => match st with
  | [] => g x0 x3 x4 x5 x6 M
  | _ => none
theorem kf_X12_cuts_39 {X : cCtx} {o : cO} {r : Int32 × cM} {g : Nat → Int32 → Int32 → Int32 → Int32 → cM → Option (Int32 × cM)} (hg : ∀ x0 x3 x4 x5 x6 M, g x0 x3 x4 x5 x6 M = some r → WX X 7 o 39 [some (.ref x0), none, none, some (.int x3), some (.int x4), some (.int x5), some (.int x6)] [] M) : ∀ vs st M, kd_X12_cuts_39 g vs st M = some r → WX X 7 o 39 vs st M := by
  intro vs st M h
  unfold kd_X12_cuts_39 at h
  obtain ⟨x0, h0, h⟩ := Option.bind_eq_some_iff.mp h
  obtain ⟨x3, h3, h⟩ := Option.bind_eq_some_iff.mp h
  obtain ⟨x4, h4, h⟩ := Option.bind_eq_some_iff.mp h
  obtain ⟨x5, h5, h⟩ := Option.bind_eq_some_iff.mp h
  obtain ⟨x6, h6, h⟩ := Option.bind_eq_some_iff.mp h
  split at h
  · exact WX_weak (hg _ _ _ _ _ _ h) rfl ⟨lR_of h0, lI_of h3, lI_of h4, lI_of h5, lI_of h6, trivial⟩
  · cases h
def kd_X12_cuts_78 (g : Nat → Int32 → Int32 → Int32 → Int32 → Nat → cM → Option (Int32 × cM)) : cKf (Int32 × cM) := fun vs st M => (lR vs 0).bind fun x0 => (lI vs 3).bind fun x3 => (lI vs 4).bind fun x4 => (lI vs 5).bind fun x5 => (lI vs 6).bind fun x6 => match st with
  | [.ref s0] => g x0 x3 x4 x5 x6 s0 M
  | _ => none
theorem kf_X12_cuts_78 {X : cCtx} {o : cO} {r : Int32 × cM} {g : Nat → Int32 → Int32 → Int32 → Int32 → Nat → cM → Option (Int32 × cM)} (hg : ∀ x0 x3 x4 x5 x6 s0 M, g x0 x3 x4 x5 x6 s0 M = some r → WX X 7 o 78 [some (.ref x0), none, none, some (.int x3), some (.int x4), some (.int x5), some (.int x6)] [.ref s0] M) : ∀ vs st M, kd_X12_cuts_78 g vs st M = some r → WX X 7 o 78 vs st M := by
  intro vs st M h
  unfold kd_X12_cuts_78 at h
  obtain ⟨x0, h0, h⟩ := Option.bind_eq_some_iff.mp h
  obtain ⟨x3, h3, h⟩ := Option.bind_eq_some_iff.mp h
  obtain ⟨x4, h4, h⟩ := Option.bind_eq_some_iff.mp h
  obtain ⟨x5, h5, h⟩ := Option.bind_eq_some_iff.mp h
  obtain ⟨x6, h6, h⟩ := Option.bind_eq_some_iff.mp h
  split at h
  · exact WX_weak (hg _ _ _ _ _ _ _ h) rfl ⟨lR_of h0, lI_of h3, lI_of h4, lI_of h5, lI_of h6, trivial⟩
  · cases h
def f_X12_cuts_78 (F : Nat) (k39 : Nat → Int32 → Int32 → Int32 → Int32 → cM → Option (Int32 × cM)) : Nat → Int32 → Int32 → Int32 → Int32 → Nat → cM → Option (Int32 × cM) := fun x0 x3 x4 x5 x6 s0 M =>
  (fR M x0 10 41).bind fun v1 =>
  (aI 0 M v1 x6).bind fun v2 =>
  (f_X12_upper F v2 M).bind fun v3 =>
  (f_X12_adds F s0 v3.1 v3.2).bind fun v4 =>
  k39 x0 x3 x4 x5 (x6 + (1 : Int32)) v4
set_option maxRecDepth 100000 in
theorem e_X12_cuts_78 (F : Nat) (k39 : Nat → Int32 → Int32 → Int32 → Int32 → cM → Option (Int32 × cM)) (x0 : Nat) (x3 : Int32) (x4 : Int32) (x5 : Int32) (x6 : Int32) (s0 : Nat) (M : cM) : f_X12_cuts_78 F k39 x0 x3 x4 x5 x6 s0 M = run T_X12_cuts P_RX12 false 1 (naL na_X12_cuts) (caL (ca_X12_cuts F)) (lkN th_X12_cuts) (lkN sw_X12_cuts) krI kxN (spL [39]) (KL [(39, kd_X12_cuts_39 (k39))]) 60 78 [some (.ref x0), none, none, some (.int x3), some (.int x4), some (.int x5), some (.int x6)] [.ref s0] M := rfl
theorem ok_X12_cuts_78 {X : cCtx} {D : Nat} {r : Int32 × cM} (G : FX X 7 (eI r) cX12_cuts RX12 1 D) {F : Nat} (hca : ∀ x ∈ (ca_X12_cuts (R' := Int32 × cM) F), 1 ≤ D ∧ ceS X.1 RX12 (D - 1) x.1 x.2) (k39 : Nat → Int32 → Int32 → Int32 → Int32 → cM → Option (Int32 × cM)) (hk39 : ∀ x0 x3 x4 x5 x6 M, k39 x0 x3 x4 x5 x6 M = some r → WX X 7 (eI r) 39 [some (.ref x0), none, none, some (.int x3), some (.int x4), some (.int x5), some (.int x6)] [] M) : ∀ x0 x3 x4 x5 x6 s0 M, f_X12_cuts_78 F k39 x0 x3 x4 x5 x6 s0 M = some r → WX X 7 (eI r) 78 [some (.ref x0), none, none, some (.int x3), some (.int x4), some (.int x5), some (.int x6)] [.ref s0] M := by
  intro x0 x3 x4 x5 x6 s0 M h
  exact seg_ok G P_RX12_ok T_X12_cuts_ok hca (fun _ h => absurd h List.not_mem_nil) sw_X12_cuts_ok krI_ok (kxN_ok (f := eI)) (List.forall_mem_cons.mpr ⟨kf_X12_cuts_39 (hk39), fun _ h => absurd h List.not_mem_nil⟩) ((e_X12_cuts_78 F k39 x0 x3 x4 x5 x6 s0 M).symm.trans h)
def f_X12_cuts_39 (F : Nat) : Nat → Nat → Int32 → Int32 → Int32 → Int32 → cM → Option (Int32 × cM) := fun n => Nat.rec (fun _ _ _ _ _ _ => none) (fun _ ih x0 x3 x4 x5 x6 M =>
  if x5 ≤ x6 then (
  some ((1 : Int32), M))
  else (
  if x3 = 0 then (
  (fR M x0 10 41).bind fun v1 =>
  (aI 0 M v1 x6).bind fun v2 =>
  (f_X12_adds F x0 v2 M).bind fun v3 =>
  ih x0 x3 x4 x5 (x6 + (1 : Int32)) v3)
  else (
  if x3 = (1 : Int32) then (
  f_X12_cuts_78 F ih x0 x3 x4 x5 x6 x0 M)
  else (
  if x3 = (3 : Int32) then (
  if x6 = x4 then (
  f_X12_cuts_78 F ih x0 x3 x4 x5 x6 x0 M)
  else (
  (fR M x0 10 41).bind fun v4 =>
  (aI 0 M v4 x6).bind fun v5 =>
  (f_X12_lower F v5 M).bind fun v6 =>
  (f_X12_adds F x0 v6.1 v6.2).bind fun v7 =>
  ih x0 x3 x4 x5 (x6 + (1 : Int32)) v7))
  else (
  (fR M x0 10 41).bind fun v8 =>
  (aI 0 M v8 x6).bind fun v9 =>
  (f_X12_lower F v9 M).bind fun v10 =>
  (f_X12_adds F x0 v10.1 v10.2).bind fun v11 =>
  ih x0 x3 x4 x5 (x6 + (1 : Int32)) v11))))) n
set_option maxRecDepth 100000 in
theorem e_X12_cuts_39 (F : Nat) (n : Nat) (x0 : Nat) (x3 : Int32) (x4 : Int32) (x5 : Int32) (x6 : Int32) (M : cM) : f_X12_cuts_39 F (n + 1) x0 x3 x4 x5 x6 M = run T_X12_cuts P_RX12 false 1 (naL na_X12_cuts) (caL (ca_X12_cuts F)) (lkN th_X12_cuts) (lkN sw_X12_cuts) krI kxN (spL [39, 78]) (KL [(39, kd_X12_cuts_39 (f_X12_cuts_39 F n)), (78, kd_X12_cuts_78 (f_X12_cuts_78 F (f_X12_cuts_39 F n)))]) 60 39 [some (.ref x0), none, none, some (.int x3), some (.int x4), some (.int x5), some (.int x6)] [] M := rfl
theorem ok_X12_cuts_39 {X : cCtx} {D : Nat} {r : Int32 × cM} (G : FX X 7 (eI r) cX12_cuts RX12 1 D) {F : Nat} (hca : ∀ x ∈ (ca_X12_cuts (R' := Int32 × cM) F), 1 ≤ D ∧ ceS X.1 RX12 (D - 1) x.1 x.2) (n : Nat) : ∀ x0 x3 x4 x5 x6 M, f_X12_cuts_39 F n x0 x3 x4 x5 x6 M = some r → WX X 7 (eI r) 39 [some (.ref x0), none, none, some (.int x3), some (.int x4), some (.int x5), some (.int x6)] [] M := by
  induction n with
  | zero => intro x0 x3 x4 x5 x6 M h; cases h
  | succ n ih =>
    intro x0 x3 x4 x5 x6 M h
    exact seg_ok G P_RX12_ok T_X12_cuts_ok hca (fun _ h => absurd h List.not_mem_nil) sw_X12_cuts_ok krI_ok (kxN_ok (f := eI)) (List.forall_mem_cons.mpr ⟨kf_X12_cuts_39 (ih), List.forall_mem_cons.mpr ⟨kf_X12_cuts_78 (ok_X12_cuts_78 G hca (f_X12_cuts_39 F n) ih), fun _ h => absurd h List.not_mem_nil⟩⟩) ((e_X12_cuts_39 F n x0 x3 x4 x5 x6 M).symm.trans h)
def f_X12_cuts_0 (F : Nat) : Nat → Int32 → Int32 → Int32 → cM → Option (Int32 × cM) := fun x0 x1 x2 x3 M =>
  (f_X12_place F x0 x1 M).bind fun v1 =>
  (f_X12_place F x0 x2 v1.2).bind fun v2 =>
  if v1.1 = (-1 : Int32) then (
  some ((0 : Int32), v2.2))
  else (
  if v2.1 = (-1 : Int32) then (
  some ((0 : Int32), v2.2))
  else (
  if v1.1 < v2.1 then (
  f_X12_cuts_39 F F x0 x3 v1.1 v2.1 v1.1 v2.2)
  else (
  some ((0 : Int32), v2.2))))
set_option maxRecDepth 100000 in
theorem e_X12_cuts_0 (F : Nat) (x0 : Nat) (x1 : Int32) (x2 : Int32) (x3 : Int32) (M : cM) : f_X12_cuts_0 F x0 x1 x2 x3 M = run T_X12_cuts P_RX12 false 1 (naL na_X12_cuts) (caL (ca_X12_cuts F)) (lkN th_X12_cuts) (lkN sw_X12_cuts) krI kxN (spL [39]) (KL [(39, kd_X12_cuts_39 (f_X12_cuts_39 F F))]) 60 0 [some (.ref x0), some (.int x1), some (.int x2), some (.int x3), none, none, none] [] M := rfl
theorem ok_X12_cuts_0 {X : cCtx} {D : Nat} {r : Int32 × cM} (G : FX X 7 (eI r) cX12_cuts RX12 1 D) {F : Nat} (hca : ∀ x ∈ (ca_X12_cuts (R' := Int32 × cM) F), 1 ≤ D ∧ ceS X.1 RX12 (D - 1) x.1 x.2) : ∀ x0 x1 x2 x3 M, f_X12_cuts_0 F x0 x1 x2 x3 M = some r → WX X 7 (eI r) 0 [some (.ref x0), some (.int x1), some (.int x2), some (.int x3), none, none, none] [] M := by
  intro x0 x1 x2 x3 M h
  exact seg_ok G P_RX12_ok T_X12_cuts_ok hca (fun _ h => absurd h List.not_mem_nil) sw_X12_cuts_ok krI_ok (kxN_ok (f := eI)) (List.forall_mem_cons.mpr ⟨kf_X12_cuts_39 (ok_X12_cuts_39 G hca F), fun _ h => absurd h List.not_mem_nil⟩) ((e_X12_cuts_0 F x0 x1 x2 x3 M).symm.trans h)
def f_X12_cuts (F : Nat) : Nat → Int32 → Int32 → Int32 → cM → Option (Int32 × cM) := fun a0 a1 a2 a3 M => if isC M a0 10 = true then f_X12_cuts_0 F a0 a1 a2 a3 M else none
theorem c_X12_cuts {q : cL} (hst : q.1.stackTraces = false) {D : Nat} (hD : 2 ≤ D) (F : Nat) (a0 : Nat) (a1 : Int32) (a2 : Int32) (a3 : Int32) (M : cM) (r : Int32 × cM) (h : f_X12_cuts F a0 a1 a2 a3 M = some r) : CTx q yX12_cuts (.code yX12_cuts cX12_cuts 7 (some .boolean)) D [.ref a0, .int a1, .int a2, .int a3] M (eI r) ∧ ∃ fs, M[a0]? = some (.inr (10, fs)) := by
  unfold f_X12_cuts at h
  split at h
  · next hi => exact ⟨CTx_of (own := RX12) (rk := 1) hst (by decide +kernel) rfl (rfl) (Nat.le_of_ble_eq_true rfl) (fun X hX G => by subst hX; exact ok_X12_cuts_0 G (ca_X12_cuts_ok hst hD F) a0 a1 a2 a3 M h), isC_of hi⟩
  · cases h
def n_X12_cuts {R' : Type} (f : Nat → Int32 → Int32 → Int32 → cM → Option (Int32 × cM)) : cFn R' := fun as M κ κx => match as with
  | [.ref a0, .int a1, .int a2, .int a3] => (f a0 a1 a2 a3 M).bind fun p => κ (some (.int p.1)) p.2
  | _ => none
theorem w_X12_cuts : ∀ w ∈ [Cond.instanceMethod yX12_cuts, .selects yX12_cuts.cls yX12_cuts yX12_cuts, .initialized yX12_cuts.cls, .code yX12_cuts cX12_cuts 7 (some .boolean)], w ∈ lw_good := wl_ok (by decide +kernel)
theorem n_X12_cuts_ok {R' : Type} {q : cL} {own : String} {d k : Nat} {f : Nat → Int32 → Int32 → Int32 → cM → Option (Int32 × cM)} (hl : Cond.methodLink own k yX12_cuts ∈ lw_good) (hf : ∀ a0 a1 a2 a3 M r, f a0 a1 a2 a3 M = some r → CTx q yX12_cuts (.code yX12_cuts cX12_cuts 7 (some .boolean)) d [.ref a0, .int a1, .int a2, .int a3] M (eI r) ∧ ∃ fs, M[a0]? = some (.inr (10, fs))) : ceS q own d (3 * k + 1) (n_X12_cuts (R' := R') f) := by
  intro as M κ κx r h
  unfold n_X12_cuts at h
  split at h
  · obtain ⟨p, h1, h2⟩ := Option.bind_eq_some_iff.mp h
    obtain ⟨hc, fs, ha⟩ := hf _ _ _ _ _ _ h1
    exact ⟨eI p, fun _ => h2, fun hne => absurd rfl hne, Or.inr ⟨yX12_cuts, cX12_cuts, 7, (some .boolean), k, 3, _, _, 10, TX12, 76, fs, rfl, rfl, hc, ha, rfl, List.forall_mem_cons.mpr ⟨hl, w_X12_cuts⟩, ⟨rfl, by decide +kernel, by decide +kernel, by decide +kernel⟩, rfl, by decide⟩⟩
  · cases h
-- PatchbayScriptModel.markOf(I)I
def T_X12_markOf : List cRow := [(0, .iload_n 0, 1, 0), (1, .iconst 1, 2, 0), (2, .if_icmp .ne 8, 5, 10), (5, .bipush 32, 7, 0), (7, .goto 35, 10, 42), (10, .iload_n 0, 11, 0), (11, .iconst 2, 12, 0), (12, .if_icmp .ne 8, 15, 20), (15, .bipush 44, 17, 0), (17, .goto 25, 20, 42), (20, .iload_n 0, 21, 0), (21, .iconst 3, 22, 0), (22, .if_icmp .ne 8, 25, 30), (25, .bipush 46, 27, 0), (27, .goto 15, 30, 42), (30, .iload_n 0, 31, 0), (31, .iconst 4, 32, 0), (32, .if_icmp .ne 8, 35, 40), (35, .bipush 45, 37, 0), (37, .goto 5, 40, 42), (40, .bipush 47, 42, 0), (42, .ireturn, 43, 0)]
theorem T_X12_markOf_ok : T_X12_markOf.all (rowB cX12_markOf) = true := by decide +kernel
def th_X12_markOf : List (Nat × Nat) := []
def sw_X12_markOf : List (Nat × (List (Int32 × Nat) × Nat)) := []
theorem sw_X12_markOf_ok : ∀ q ∈ sw_X12_markOf, swS cX12_markOf q := fun _ h => absurd h List.not_mem_nil
def na_X12_markOf : List (Nat × Nat) := []
def ca_X12_markOf {R' : Type} (F : Nat) : List (Nat × cFn R') := []
theorem ca_X12_markOf_ok {R' : Type} {q : cL} (hst : q.1.stackTraces = false) {D : Nat} (hD : 0 ≤ D) (F : Nat) : ∀ x ∈ (ca_X12_markOf (R' := R') F), 1 ≤ D ∧ ceS q RX12 (D - 1) x.1 x.2 := fun _ h => absurd h List.not_mem_nil
def f_X12_markOf_0 (F : Nat) : Int32 → cM → Option (Int32 × cM) := fun x0 M =>
  if x0 = (1 : Int32) then (
  some ((32 : Int32), M))
  else (
  if x0 = (2 : Int32) then (
  some ((44 : Int32), M))
  else (
  if x0 = (3 : Int32) then (
  some ((46 : Int32), M))
  else (
  if x0 = (4 : Int32) then (
  some ((45 : Int32), M))
  else (
  some ((47 : Int32), M)))))
set_option maxRecDepth 100000 in
theorem e_X12_markOf_0 (F : Nat) (x0 : Int32) (M : cM) : f_X12_markOf_0 F x0 M = run T_X12_markOf P_RX12 false 0 (naL na_X12_markOf) (caL (ca_X12_markOf F)) (lkN th_X12_markOf) (lkN sw_X12_markOf) krI kxN (spL []) (KL []) 25 0 [some (.int x0)] [] M := rfl
theorem ok_X12_markOf_0 {X : cCtx} {D : Nat} {r : Int32 × cM} (G : FX X 1 (eI r) cX12_markOf RX12 0 D) {F : Nat} (hca : ∀ x ∈ (ca_X12_markOf (R' := Int32 × cM) F), 1 ≤ D ∧ ceS X.1 RX12 (D - 1) x.1 x.2) : ∀ x0 M, f_X12_markOf_0 F x0 M = some r → WX X 1 (eI r) 0 [some (.int x0)] [] M := by
  intro x0 M h
  exact seg_ok G P_RX12_ok T_X12_markOf_ok hca (fun _ h => absurd h List.not_mem_nil) sw_X12_markOf_ok krI_ok (kxN_ok (f := eI)) (fun _ h => absurd h List.not_mem_nil) ((e_X12_markOf_0 F x0 M).symm.trans h)
def f_X12_markOf (F : Nat) : Int32 → cM → Option (Int32 × cM) := fun a0 M => f_X12_markOf_0 F a0 M
theorem c_X12_markOf {q : cL} (hst : q.1.stackTraces = false) {D : Nat} (hD : 0 ≤ D) (F : Nat) (a0 : Int32) (M : cM) (r : Int32 × cM) (h : f_X12_markOf F a0 M = some r) : CTx q yX12_markOf (.code yX12_markOf cX12_markOf 1 (some .int)) D [.int a0] M (eI r) := by
  exact CTx_of (own := RX12) (rk := 0) hst (by decide +kernel) rfl (rfl) (Nat.le_of_ble_eq_true rfl) (fun X hX G => by subst hX; exact ok_X12_markOf_0 G (ca_X12_markOf_ok hst hD F) a0 M h)
def n_X12_markOf {R' : Type} (f : Int32 → cM → Option (Int32 × cM)) : cFn R' := fun as M κ κx => match as with
  | [.int a0] => (f a0 M).bind fun p => κ (some (.int p.1)) p.2
  | _ => none
theorem w_X12_markOf : ∀ w ∈ [Cond.static yX12_markOf, .initialized yX12_markOf.cls, .code yX12_markOf cX12_markOf 1 (some .int)], w ∈ lw_good := wl_ok (by decide +kernel)
theorem n_X12_markOf_ok {R' : Type} {q : cL} {own : String} {d k : Nat} {f : Int32 → cM → Option (Int32 × cM)} (hl : Cond.methodLink own k yX12_markOf ∈ lw_good) (hf : ∀ a0 M r, f a0 M = some r → CTx q yX12_markOf (.code yX12_markOf cX12_markOf 1 (some .int)) d [.int a0] M (eI r)) : ceS q own d (3 * k) (n_X12_markOf (R' := R') f) := by
  intro as M κ κx r h
  unfold n_X12_markOf at h
  split at h
  · obtain ⟨p, h1, h2⟩ := Option.bind_eq_some_iff.mp h
    exact ⟨eI p, fun _ => h2, fun hne => absurd rfl hne, Or.inl ⟨yX12_markOf, cX12_markOf, 1, (some .int), k, 1, rfl, hf _ _ _ h1, List.forall_mem_cons.mpr ⟨hl, w_X12_markOf⟩, ⟨by decide +kernel, by decide +kernel, by decide +kernel⟩, rfl, by decide⟩⟩
  · cases h
-- PatchbayScriptModel.eachs(III)Z
def T_X12_eachs : List cRow := [(0, .bipush 11, 2, 0), (2, .iload_n 1, 3, 0), (3, .imul, 4, 0), (4, .istore 4, 6, 0), (6, .iload 4, 8, 0), (8, .bipush 11, 10, 0), (10, .iload_n 1, 11, 0), (11, .imul, 12, 0), (12, .aload_n 0, 13, 0), (13, .getfield 116, 16, 0), (16, .iload_n 1, 17, 0), (17, .iaload, 18, 0), (18, .iadd, 19, 0), (19, .if_icmp .ge 110, 22, 129), (22, .iload 4, 24, 0), (24, .bipush 11, 26, 0), (26, .iload_n 1, 27, 0), (27, .imul, 28, 0), (28, .if_icmp .le 15, 31, 43), (31, .iload_n 3, 32, 0), (32, .ifCond .le 11, 35, 43), (35, .aload_n 0, 36, 0), (36, .iload_n 3, 37, 0), (37, .invokestatic 244, 40, 0), (40, .invokevirtual 240, 43, 0), (43, .iload_n 2, 44, 0), (44, .iconst 2, 45, 0), (45, .if_icmp .ne 15, 48, 60), (48, .aload_n 0, 49, 0), (49, .getfield 122, 52, 0), (52, .iload 4, 54, 0), (54, .iaload, 55, 0), (55, .iconst 1, 56, 0), (56, .isub, 57, 0), (57, .goto 10, 60, 67), (60, .aload_n 0, 61, 0), (61, .getfield 119, 64, 0), (64, .iload 4, 66, 0), (66, .iaload, 67, 0), (67, .istore 5, 69, 0), (69, .iload_n 2, 70, 0), (70, .iconst 1, 71, 0), (71, .if_icmp .ne 15, 74, 86), (74, .aload_n 0, 75, 0), (75, .getfield 119, 78, 0), (78, .iload 4, 80, 0), (80, .iaload, 81, 0), (81, .iconst 1, 82, 0), (82, .iadd, 83, 0), (83, .goto 10, 86, 93), (86, .aload_n 0, 87, 0), (87, .getfield 122, 90, 0), (90, .iload 4, 92, 0), (92, .iaload, 93, 0), (93, .istore 6, 95, 0), (95, .iload 5, 97, 0), (97, .istore 7, 99, 0), (99, .iload 7, 101, 0), (101, .iload 6, 103, 0), (103, .if_icmp .ge 20, 106, 123), (106, .aload_n 0, 107, 0), (107, .aload_n 0, 108, 0), (108, .getfield 113, 111, 0), (111, .iload 7, 113, 0), (113, .iaload, 114, 0), (114, .invokevirtual 240, 117, 0), (117, .iinc 7 1, 120, 0), (120, .goto (-21), 123, 99), (123, .iinc 4 1, 126, 0), (126, .goto (-120), 129, 6), (129, .aload_n 0, 130, 0), (130, .getfield 116, 133, 0), (133, .iload_n 1, 134, 0), (134, .iaload, 135, 0), (135, .ifCond .le 7, 138, 142), (138, .iconst 1, 139, 0), (139, .goto 4, 142, 143), (142, .iconst 0, 143, 0), (143, .ireturn, 144, 0)]
theorem T_X12_eachs_ok : T_X12_eachs.all (rowB cX12_eachs) = true := by decide +kernel
def th_X12_eachs : List (Nat × Nat) := []
def sw_X12_eachs : List (Nat × (List (Int32 × Nat) × Nat)) := []
theorem sw_X12_eachs_ok : ∀ q ∈ sw_X12_eachs, swS cX12_eachs q := fun _ h => absurd h List.not_mem_nil
def na_X12_eachs : List (Nat × Nat) := [(732, 1), (721, 2)]
def ca_X12_eachs {R' : Type} (F : Nat) : List (Nat × cFn R') := [(732, n_X12_markOf (f_X12_markOf F)), (721, n_X12_adds (f_X12_adds F))]
theorem ca_X12_eachs_ok {R' : Type} {q : cL} (hst : q.1.stackTraces = false) {D : Nat} (hD : 1 ≤ D) (F : Nat) : ∀ x ∈ (ca_X12_eachs (R' := R') F), 1 ≤ D ∧ ceS q RX12 (D - 1) x.1 x.2 := List.forall_mem_cons.mpr ⟨⟨by omega, n_X12_markOf_ok (k := 244) (ml_ok RX12 244 yX12_markOf (by decide +kernel)) (fun a0 M r h => c_X12_markOf hst (by omega) F a0 M r h)⟩, List.forall_mem_cons.mpr ⟨⟨by omega, n_X12_adds_ok (k := 240) (ml_ok RX12 240 yX12_adds (by decide +kernel)) (fun a0 a1 M r h => c_X12_adds hst (by omega) F a0 a1 M r h)⟩, fun _ h => absurd h List.not_mem_nil⟩⟩
def kd_X12_eachs_6 (g : Nat → Int32 → Int32 → Int32 → Int32 → cM → Option (Int32 × cM)) : cKf (Int32 × cM) := fun vs st M => (lR vs 0).bind fun x0 => (lI vs 1).bind fun x1 => (lI vs 2).bind fun x2 => (lI vs 3).bind fun x3 => (lI vs 4).bind fun x4 => match st with
  | [] => g x0 x1 x2 x3 x4 M
  | _ => none
theorem kf_X12_eachs_6 {X : cCtx} {o : cO} {r : Int32 × cM} {g : Nat → Int32 → Int32 → Int32 → Int32 → cM → Option (Int32 × cM)} (hg : ∀ x0 x1 x2 x3 x4 M, g x0 x1 x2 x3 x4 M = some r → WX X 8 o 6 [some (.ref x0), some (.int x1), some (.int x2), some (.int x3), some (.int x4), none, none, none] [] M) : ∀ vs st M, kd_X12_eachs_6 g vs st M = some r → WX X 8 o 6 vs st M := by
  intro vs st M h
  unfold kd_X12_eachs_6 at h
  obtain ⟨x0, h0, h⟩ := Option.bind_eq_some_iff.mp h
  obtain ⟨x1, h1, h⟩ := Option.bind_eq_some_iff.mp h
  obtain ⟨x2, h2, h⟩ := Option.bind_eq_some_iff.mp h
  obtain ⟨x3, h3, h⟩ := Option.bind_eq_some_iff.mp h
  obtain ⟨x4, h4, h⟩ := Option.bind_eq_some_iff.mp h
  split at h
  · exact WX_weak (hg _ _ _ _ _ _ h) rfl ⟨lR_of h0, lI_of h1, lI_of h2, lI_of h3, lI_of h4, trivial⟩
  · cases h
def kd_X12_eachs_43 (g : Nat → Int32 → Int32 → Int32 → Int32 → cM → Option (Int32 × cM)) : cKf (Int32 × cM) := fun vs st M => (lR vs 0).bind fun x0 => (lI vs 1).bind fun x1 => (lI vs 2).bind fun x2 => (lI vs 3).bind fun x3 => (lI vs 4).bind fun x4 => match st with
  | [] => g x0 x1 x2 x3 x4 M
  | _ => none
theorem kf_X12_eachs_43 {X : cCtx} {o : cO} {r : Int32 × cM} {g : Nat → Int32 → Int32 → Int32 → Int32 → cM → Option (Int32 × cM)} (hg : ∀ x0 x1 x2 x3 x4 M, g x0 x1 x2 x3 x4 M = some r → WX X 8 o 43 [some (.ref x0), some (.int x1), some (.int x2), some (.int x3), some (.int x4), none, none, none] [] M) : ∀ vs st M, kd_X12_eachs_43 g vs st M = some r → WX X 8 o 43 vs st M := by
  intro vs st M h
  unfold kd_X12_eachs_43 at h
  obtain ⟨x0, h0, h⟩ := Option.bind_eq_some_iff.mp h
  obtain ⟨x1, h1, h⟩ := Option.bind_eq_some_iff.mp h
  obtain ⟨x2, h2, h⟩ := Option.bind_eq_some_iff.mp h
  obtain ⟨x3, h3, h⟩ := Option.bind_eq_some_iff.mp h
  obtain ⟨x4, h4, h⟩ := Option.bind_eq_some_iff.mp h
  split at h
  · exact WX_weak (hg _ _ _ _ _ _ h) rfl ⟨lR_of h0, lI_of h1, lI_of h2, lI_of h3, lI_of h4, trivial⟩
  · cases h
def kd_X12_eachs_67 (g : Nat → Int32 → Int32 → Int32 → Int32 → Int32 → cM → Option (Int32 × cM)) : cKf (Int32 × cM) := fun vs st M => (lR vs 0).bind fun x0 => (lI vs 1).bind fun x1 => (lI vs 2).bind fun x2 => (lI vs 3).bind fun x3 => (lI vs 4).bind fun x4 => match st with
  | [.int s0] => g x0 x1 x2 x3 x4 s0 M
  | _ => none
theorem kf_X12_eachs_67 {X : cCtx} {o : cO} {r : Int32 × cM} {g : Nat → Int32 → Int32 → Int32 → Int32 → Int32 → cM → Option (Int32 × cM)} (hg : ∀ x0 x1 x2 x3 x4 s0 M, g x0 x1 x2 x3 x4 s0 M = some r → WX X 8 o 67 [some (.ref x0), some (.int x1), some (.int x2), some (.int x3), some (.int x4), none, none, none] [.int s0] M) : ∀ vs st M, kd_X12_eachs_67 g vs st M = some r → WX X 8 o 67 vs st M := by
  intro vs st M h
  unfold kd_X12_eachs_67 at h
  obtain ⟨x0, h0, h⟩ := Option.bind_eq_some_iff.mp h
  obtain ⟨x1, h1, h⟩ := Option.bind_eq_some_iff.mp h
  obtain ⟨x2, h2, h⟩ := Option.bind_eq_some_iff.mp h
  obtain ⟨x3, h3, h⟩ := Option.bind_eq_some_iff.mp h
  obtain ⟨x4, h4, h⟩ := Option.bind_eq_some_iff.mp h
  split at h
  · exact WX_weak (hg _ _ _ _ _ _ _ h) rfl ⟨lR_of h0, lI_of h1, lI_of h2, lI_of h3, lI_of h4, trivial⟩
  · cases h
def kd_X12_eachs_99 (g : Nat → Int32 → Int32 → Int32 → Int32 → Int32 → Int32 → cM → Option (Int32 × cM)) : cKf (Int32 × cM) := fun vs st M => (lR vs 0).bind fun x0 => (lI vs 1).bind fun x1 => (lI vs 2).bind fun x2 => (lI vs 3).bind fun x3 => (lI vs 4).bind fun x4 => (lI vs 6).bind fun x6 => (lI vs 7).bind fun x7 => match st with
  | [] => g x0 x1 x2 x3 x4 x6 x7 M
  | _ => none
theorem kf_X12_eachs_99 {X : cCtx} {o : cO} {r : Int32 × cM} {g : Nat → Int32 → Int32 → Int32 → Int32 → Int32 → Int32 → cM → Option (Int32 × cM)} (hg : ∀ x0 x1 x2 x3 x4 x6 x7 M, g x0 x1 x2 x3 x4 x6 x7 M = some r → WX X 8 o 99 [some (.ref x0), some (.int x1), some (.int x2), some (.int x3), some (.int x4), none, some (.int x6), some (.int x7)] [] M) : ∀ vs st M, kd_X12_eachs_99 g vs st M = some r → WX X 8 o 99 vs st M := by
  intro vs st M h
  unfold kd_X12_eachs_99 at h
  obtain ⟨x0, h0, h⟩ := Option.bind_eq_some_iff.mp h
  obtain ⟨x1, h1, h⟩ := Option.bind_eq_some_iff.mp h
  obtain ⟨x2, h2, h⟩ := Option.bind_eq_some_iff.mp h
  obtain ⟨x3, h3, h⟩ := Option.bind_eq_some_iff.mp h
  obtain ⟨x4, h4, h⟩ := Option.bind_eq_some_iff.mp h
  obtain ⟨x6, h6, h⟩ := Option.bind_eq_some_iff.mp h
  obtain ⟨x7, h7, h⟩ := Option.bind_eq_some_iff.mp h
  split at h
  · exact WX_weak (hg _ _ _ _ _ _ _ _ h) rfl ⟨lR_of h0, lI_of h1, lI_of h2, lI_of h3, lI_of h4, lI_of h6, lI_of h7, trivial⟩
  · cases h
def f_X12_eachs_99 (F : Nat) (k6 : Nat → Int32 → Int32 → Int32 → Int32 → cM → Option (Int32 × cM)) : Nat → Nat → Int32 → Int32 → Int32 → Int32 → Int32 → Int32 → cM → Option (Int32 × cM) := fun n => Nat.rec (fun _ _ _ _ _ _ _ _ => none) (fun _ ih x0 x1 x2 x3 x4 x6 x7 M =>
  if x6 ≤ x7 then (
  k6 x0 x1 x2 x3 (x4 + (1 : Int32)) M)
  else (
  (fR M x0 10 41).bind fun v1 =>
  (aI 0 M v1 x7).bind fun v2 =>
  (f_X12_adds F x0 v2 M).bind fun v3 =>
  ih x0 x1 x2 x3 x4 x6 (x7 + (1 : Int32)) v3)) n
set_option maxRecDepth 100000 in
theorem e_X12_eachs_99 (F : Nat) (k6 : Nat → Int32 → Int32 → Int32 → Int32 → cM → Option (Int32 × cM)) (n : Nat) (x0 : Nat) (x1 : Int32) (x2 : Int32) (x3 : Int32) (x4 : Int32) (x6 : Int32) (x7 : Int32) (M : cM) : f_X12_eachs_99 F k6 (n + 1) x0 x1 x2 x3 x4 x6 x7 M = run T_X12_eachs P_RX12 false 1 (naL na_X12_eachs) (caL (ca_X12_eachs F)) (lkN th_X12_eachs) (lkN sw_X12_eachs) krI kxN (spL [6, 99]) (KL [(6, kd_X12_eachs_6 (k6)), (99, kd_X12_eachs_99 (f_X12_eachs_99 F k6 n))]) 82 99 [some (.ref x0), some (.int x1), some (.int x2), some (.int x3), some (.int x4), none, some (.int x6), some (.int x7)] [] M := rfl
theorem ok_X12_eachs_99 {X : cCtx} {D : Nat} {r : Int32 × cM} (G : FX X 8 (eI r) cX12_eachs RX12 1 D) {F : Nat} (hca : ∀ x ∈ (ca_X12_eachs (R' := Int32 × cM) F), 1 ≤ D ∧ ceS X.1 RX12 (D - 1) x.1 x.2) (k6 : Nat → Int32 → Int32 → Int32 → Int32 → cM → Option (Int32 × cM)) (hk6 : ∀ x0 x1 x2 x3 x4 M, k6 x0 x1 x2 x3 x4 M = some r → WX X 8 (eI r) 6 [some (.ref x0), some (.int x1), some (.int x2), some (.int x3), some (.int x4), none, none, none] [] M) (n : Nat) : ∀ x0 x1 x2 x3 x4 x6 x7 M, f_X12_eachs_99 F k6 n x0 x1 x2 x3 x4 x6 x7 M = some r → WX X 8 (eI r) 99 [some (.ref x0), some (.int x1), some (.int x2), some (.int x3), some (.int x4), none, some (.int x6), some (.int x7)] [] M := by
  induction n with
  | zero => intro x0 x1 x2 x3 x4 x6 x7 M h; cases h
  | succ n ih =>
    intro x0 x1 x2 x3 x4 x6 x7 M h
    exact seg_ok G P_RX12_ok T_X12_eachs_ok hca (fun _ h => absurd h List.not_mem_nil) sw_X12_eachs_ok krI_ok (kxN_ok (f := eI)) (List.forall_mem_cons.mpr ⟨kf_X12_eachs_6 (hk6), List.forall_mem_cons.mpr ⟨kf_X12_eachs_99 (ih), fun _ h => absurd h List.not_mem_nil⟩⟩) ((e_X12_eachs_99 F k6 n x0 x1 x2 x3 x4 x6 x7 M).symm.trans h)
def f_X12_eachs_67 (F : Nat) (k6 : Nat → Int32 → Int32 → Int32 → Int32 → cM → Option (Int32 × cM)) : Nat → Int32 → Int32 → Int32 → Int32 → Int32 → cM → Option (Int32 × cM) := fun x0 x1 x2 x3 x4 s0 M =>
  if x2 = (1 : Int32) then (
  (fR M x0 10 43).bind fun v1 =>
  (aI 0 M v1 x4).bind fun v2 =>
  f_X12_eachs_99 F k6 F x0 x1 x2 x3 x4 (v2 + (1 : Int32)) s0 M)
  else (
  (fR M x0 10 44).bind fun v3 =>
  (aI 0 M v3 x4).bind fun v4 =>
  f_X12_eachs_99 F k6 F x0 x1 x2 x3 x4 v4 s0 M)
set_option maxRecDepth 100000 in
theorem e_X12_eachs_67 (F : Nat) (k6 : Nat → Int32 → Int32 → Int32 → Int32 → cM → Option (Int32 × cM)) (x0 : Nat) (x1 : Int32) (x2 : Int32) (x3 : Int32) (x4 : Int32) (s0 : Int32) (M : cM) : f_X12_eachs_67 F k6 x0 x1 x2 x3 x4 s0 M = run T_X12_eachs P_RX12 false 1 (naL na_X12_eachs) (caL (ca_X12_eachs F)) (lkN th_X12_eachs) (lkN sw_X12_eachs) krI kxN (spL [99]) (KL [(99, kd_X12_eachs_99 (f_X12_eachs_99 F k6 F))]) 82 67 [some (.ref x0), some (.int x1), some (.int x2), some (.int x3), some (.int x4), none, none, none] [.int s0] M := rfl
theorem ok_X12_eachs_67 {X : cCtx} {D : Nat} {r : Int32 × cM} (G : FX X 8 (eI r) cX12_eachs RX12 1 D) {F : Nat} (hca : ∀ x ∈ (ca_X12_eachs (R' := Int32 × cM) F), 1 ≤ D ∧ ceS X.1 RX12 (D - 1) x.1 x.2) (k6 : Nat → Int32 → Int32 → Int32 → Int32 → cM → Option (Int32 × cM)) (hk6 : ∀ x0 x1 x2 x3 x4 M, k6 x0 x1 x2 x3 x4 M = some r → WX X 8 (eI r) 6 [some (.ref x0), some (.int x1), some (.int x2), some (.int x3), some (.int x4), none, none, none] [] M) : ∀ x0 x1 x2 x3 x4 s0 M, f_X12_eachs_67 F k6 x0 x1 x2 x3 x4 s0 M = some r → WX X 8 (eI r) 67 [some (.ref x0), some (.int x1), some (.int x2), some (.int x3), some (.int x4), none, none, none] [.int s0] M := by
  intro x0 x1 x2 x3 x4 s0 M h
  exact seg_ok G P_RX12_ok T_X12_eachs_ok hca (fun _ h => absurd h List.not_mem_nil) sw_X12_eachs_ok krI_ok (kxN_ok (f := eI)) (List.forall_mem_cons.mpr ⟨kf_X12_eachs_99 (ok_X12_eachs_99 G hca k6 hk6 F), fun _ h => absurd h List.not_mem_nil⟩) ((e_X12_eachs_67 F k6 x0 x1 x2 x3 x4 s0 M).symm.trans h)
def f_X12_eachs_43 (F : Nat) (k6 : Nat → Int32 → Int32 → Int32 → Int32 → cM → Option (Int32 × cM)) : Nat → Int32 → Int32 → Int32 → Int32 → cM → Option (Int32 × cM) := fun x0 x1 x2 x3 x4 M =>
  if x2 = (2 : Int32) then (
  (fR M x0 10 44).bind fun v1 =>
  (aI 0 M v1 x4).bind fun v2 =>
  f_X12_eachs_67 F k6 x0 x1 x2 x3 x4 (v2 - (1 : Int32)) M)
  else (
  (fR M x0 10 43).bind fun v3 =>
  (aI 0 M v3 x4).bind fun v4 =>
  f_X12_eachs_67 F k6 x0 x1 x2 x3 x4 v4 M)
set_option maxRecDepth 100000 in
theorem e_X12_eachs_43 (F : Nat) (k6 : Nat → Int32 → Int32 → Int32 → Int32 → cM → Option (Int32 × cM)) (x0 : Nat) (x1 : Int32) (x2 : Int32) (x3 : Int32) (x4 : Int32) (M : cM) : f_X12_eachs_43 F k6 x0 x1 x2 x3 x4 M = run T_X12_eachs P_RX12 false 1 (naL na_X12_eachs) (caL (ca_X12_eachs F)) (lkN th_X12_eachs) (lkN sw_X12_eachs) krI kxN (spL [67]) (KL [(67, kd_X12_eachs_67 (f_X12_eachs_67 F k6))]) 82 43 [some (.ref x0), some (.int x1), some (.int x2), some (.int x3), some (.int x4), none, none, none] [] M := rfl
theorem ok_X12_eachs_43 {X : cCtx} {D : Nat} {r : Int32 × cM} (G : FX X 8 (eI r) cX12_eachs RX12 1 D) {F : Nat} (hca : ∀ x ∈ (ca_X12_eachs (R' := Int32 × cM) F), 1 ≤ D ∧ ceS X.1 RX12 (D - 1) x.1 x.2) (k6 : Nat → Int32 → Int32 → Int32 → Int32 → cM → Option (Int32 × cM)) (hk6 : ∀ x0 x1 x2 x3 x4 M, k6 x0 x1 x2 x3 x4 M = some r → WX X 8 (eI r) 6 [some (.ref x0), some (.int x1), some (.int x2), some (.int x3), some (.int x4), none, none, none] [] M) : ∀ x0 x1 x2 x3 x4 M, f_X12_eachs_43 F k6 x0 x1 x2 x3 x4 M = some r → WX X 8 (eI r) 43 [some (.ref x0), some (.int x1), some (.int x2), some (.int x3), some (.int x4), none, none, none] [] M := by
  intro x0 x1 x2 x3 x4 M h
  exact seg_ok G P_RX12_ok T_X12_eachs_ok hca (fun _ h => absurd h List.not_mem_nil) sw_X12_eachs_ok krI_ok (kxN_ok (f := eI)) (List.forall_mem_cons.mpr ⟨kf_X12_eachs_67 (ok_X12_eachs_67 G hca k6 hk6), fun _ h => absurd h List.not_mem_nil⟩) ((e_X12_eachs_43 F k6 x0 x1 x2 x3 x4 M).symm.trans h)
def f_X12_eachs_6 (F : Nat) : Nat → Nat → Int32 → Int32 → Int32 → Int32 → cM → Option (Int32 × cM) := fun n => Nat.rec (fun _ _ _ _ _ _ => none) (fun _ ih x0 x1 x2 x3 x4 M =>
  (fR M x0 10 42).bind fun v1 =>
  (aI 0 M v1 x1).bind fun v2 =>
  if ((11 : Int32) * x1) + v2 ≤ x4 then (
  (fR M x0 10 42).bind fun v3 =>
  (aI 0 M v3 x1).bind fun v4 =>
  if v4 ≤ 0 then (
  some ((0 : Int32), M))
  else (
  some ((1 : Int32), M)))
  else (
  if x4 ≤ (11 : Int32) * x1 then (
  f_X12_eachs_43 F ih x0 x1 x2 x3 x4 M)
  else (
  if x3 ≤ 0 then (
  f_X12_eachs_43 F ih x0 x1 x2 x3 x4 M)
  else (
  (f_X12_markOf F x3 M).bind fun v5 =>
  (f_X12_adds F x0 v5.1 v5.2).bind fun v6 =>
  f_X12_eachs_43 F ih x0 x1 x2 x3 x4 v6)))) n
set_option maxRecDepth 100000 in
theorem e_X12_eachs_6 (F : Nat) (n : Nat) (x0 : Nat) (x1 : Int32) (x2 : Int32) (x3 : Int32) (x4 : Int32) (M : cM) : f_X12_eachs_6 F (n + 1) x0 x1 x2 x3 x4 M = run T_X12_eachs P_RX12 false 1 (naL na_X12_eachs) (caL (ca_X12_eachs F)) (lkN th_X12_eachs) (lkN sw_X12_eachs) krI kxN (spL [43]) (KL [(43, kd_X12_eachs_43 (f_X12_eachs_43 F (f_X12_eachs_6 F n)))]) 82 6 [some (.ref x0), some (.int x1), some (.int x2), some (.int x3), some (.int x4), none, none, none] [] M := rfl
theorem ok_X12_eachs_6 {X : cCtx} {D : Nat} {r : Int32 × cM} (G : FX X 8 (eI r) cX12_eachs RX12 1 D) {F : Nat} (hca : ∀ x ∈ (ca_X12_eachs (R' := Int32 × cM) F), 1 ≤ D ∧ ceS X.1 RX12 (D - 1) x.1 x.2) (n : Nat) : ∀ x0 x1 x2 x3 x4 M, f_X12_eachs_6 F n x0 x1 x2 x3 x4 M = some r → WX X 8 (eI r) 6 [some (.ref x0), some (.int x1), some (.int x2), some (.int x3), some (.int x4), none, none, none] [] M := by
  induction n with
  | zero => intro x0 x1 x2 x3 x4 M h; cases h
  | succ n ih =>
    intro x0 x1 x2 x3 x4 M h
    exact seg_ok G P_RX12_ok T_X12_eachs_ok hca (fun _ h => absurd h List.not_mem_nil) sw_X12_eachs_ok krI_ok (kxN_ok (f := eI)) (List.forall_mem_cons.mpr ⟨kf_X12_eachs_43 (ok_X12_eachs_43 G hca (f_X12_eachs_6 F n) ih), fun _ h => absurd h List.not_mem_nil⟩) ((e_X12_eachs_6 F n x0 x1 x2 x3 x4 M).symm.trans h)
def f_X12_eachs_0 (F : Nat) : Nat → Int32 → Int32 → Int32 → cM → Option (Int32 × cM) := fun x0 x1 x2 x3 M =>
  let v1 : Int32 := (11 : Int32) * x1
  f_X12_eachs_6 F F x0 x1 x2 x3 v1 M
set_option maxRecDepth 100000 in
theorem e_X12_eachs_0 (F : Nat) (x0 : Nat) (x1 : Int32) (x2 : Int32) (x3 : Int32) (M : cM) : f_X12_eachs_0 F x0 x1 x2 x3 M = run T_X12_eachs P_RX12 false 1 (naL na_X12_eachs) (caL (ca_X12_eachs F)) (lkN th_X12_eachs) (lkN sw_X12_eachs) krI kxN (spL [6]) (KL [(6, kd_X12_eachs_6 (f_X12_eachs_6 F F))]) 82 0 [some (.ref x0), some (.int x1), some (.int x2), some (.int x3), none, none, none, none] [] M := rfl
theorem ok_X12_eachs_0 {X : cCtx} {D : Nat} {r : Int32 × cM} (G : FX X 8 (eI r) cX12_eachs RX12 1 D) {F : Nat} (hca : ∀ x ∈ (ca_X12_eachs (R' := Int32 × cM) F), 1 ≤ D ∧ ceS X.1 RX12 (D - 1) x.1 x.2) : ∀ x0 x1 x2 x3 M, f_X12_eachs_0 F x0 x1 x2 x3 M = some r → WX X 8 (eI r) 0 [some (.ref x0), some (.int x1), some (.int x2), some (.int x3), none, none, none, none] [] M := by
  intro x0 x1 x2 x3 M h
  exact seg_ok G P_RX12_ok T_X12_eachs_ok hca (fun _ h => absurd h List.not_mem_nil) sw_X12_eachs_ok krI_ok (kxN_ok (f := eI)) (List.forall_mem_cons.mpr ⟨kf_X12_eachs_6 (ok_X12_eachs_6 G hca F), fun _ h => absurd h List.not_mem_nil⟩) ((e_X12_eachs_0 F x0 x1 x2 x3 M).symm.trans h)
def f_X12_eachs (F : Nat) : Nat → Int32 → Int32 → Int32 → cM → Option (Int32 × cM) := fun a0 a1 a2 a3 M => if isC M a0 10 = true then f_X12_eachs_0 F a0 a1 a2 a3 M else none
theorem c_X12_eachs {q : cL} (hst : q.1.stackTraces = false) {D : Nat} (hD : 1 ≤ D) (F : Nat) (a0 : Nat) (a1 : Int32) (a2 : Int32) (a3 : Int32) (M : cM) (r : Int32 × cM) (h : f_X12_eachs F a0 a1 a2 a3 M = some r) : CTx q yX12_eachs (.code yX12_eachs cX12_eachs 8 (some .boolean)) D [.ref a0, .int a1, .int a2, .int a3] M (eI r) ∧ ∃ fs, M[a0]? = some (.inr (10, fs)) := by
  unfold f_X12_eachs at h
  split at h
  · next hi => exact ⟨CTx_of (own := RX12) (rk := 1) hst (by decide +kernel) rfl (rfl) (Nat.le_of_ble_eq_true rfl) (fun X hX G => by subst hX; exact ok_X12_eachs_0 G (ca_X12_eachs_ok hst hD F) a0 a1 a2 a3 M h), isC_of hi⟩
  · cases h
def n_X12_eachs {R' : Type} (f : Nat → Int32 → Int32 → Int32 → cM → Option (Int32 × cM)) : cFn R' := fun as M κ κx => match as with
  | [.ref a0, .int a1, .int a2, .int a3] => (f a0 a1 a2 a3 M).bind fun p => κ (some (.int p.1)) p.2
  | _ => none
theorem w_X12_eachs : ∀ w ∈ [Cond.instanceMethod yX12_eachs, .selects yX12_eachs.cls yX12_eachs yX12_eachs, .initialized yX12_eachs.cls, .code yX12_eachs cX12_eachs 8 (some .boolean)], w ∈ lw_good := wl_ok (by decide +kernel)
theorem n_X12_eachs_ok {R' : Type} {q : cL} {own : String} {d k : Nat} {f : Nat → Int32 → Int32 → Int32 → cM → Option (Int32 × cM)} (hl : Cond.methodLink own k yX12_eachs ∈ lw_good) (hf : ∀ a0 a1 a2 a3 M r, f a0 a1 a2 a3 M = some r → CTx q yX12_eachs (.code yX12_eachs cX12_eachs 8 (some .boolean)) d [.ref a0, .int a1, .int a2, .int a3] M (eI r) ∧ ∃ fs, M[a0]? = some (.inr (10, fs))) : ceS q own d (3 * k + 1) (n_X12_eachs (R' := R') f) := by
  intro as M κ κx r h
  unfold n_X12_eachs at h
  split at h
  · obtain ⟨p, h1, h2⟩ := Option.bind_eq_some_iff.mp h
    obtain ⟨hc, fs, ha⟩ := hf _ _ _ _ _ _ h1
    exact ⟨eI p, fun _ => h2, fun hne => absurd rfl hne, Or.inr ⟨yX12_eachs, cX12_eachs, 8, (some .boolean), k, 3, _, _, 10, TX12, 76, fs, rfl, rfl, hc, ha, rfl, List.forall_mem_cons.mpr ⟨hl, w_X12_eachs⟩, ⟨rfl, by decide +kernel, by decide +kernel, by decide +kernel⟩, rfl, by decide⟩⟩
  · cases h
-- PatchbayScriptModel.makes(I)Z
def T_X12_makes : List cRow := [(0, .aload_n 0, 1, 0), (1, .iconst 0, 2, 0), (2, .putfield 228, 5, 0), (5, .iconst 1, 6, 0), (6, .istore_n 2, 7, 0), (7, .iconst 4, 8, 0), (8, .iload_n 1, 9, 0), (9, .imul, 10, 0), (10, .istore_n 3, 11, 0), (11, .iload_n 3, 12, 0), (12, .iconst 4, 13, 0), (13, .iload_n 1, 14, 0), (14, .imul, 15, 0), (15, .aload_n 0, 16, 0), (16, .getfield 89, 19, 0), (19, .iload_n 1, 20, 0), (20, .iaload, 21, 0), (21, .iadd, 22, 0), (22, .if_icmp .ge 118, 25, 140), (25, .iload_n 2, 26, 0), (26, .ifCond .eq 114, 29, 140), (29, .aload_n 0, 30, 0), (30, .getfield 95, 33, 0), (33, .iload_n 3, 34, 0), (34, .iaload, 35, 0), (35, .ifCond .ne 41, 38, 76), (38, .iconst 0, 39, 0), (39, .istore 4, 41, 0), (41, .iload 4, 43, 0), (43, .aload_n 0, 44, 0), (44, .getfield 98, 47, 0), (47, .iload_n 3, 48, 0), (48, .iaload, 49, 0), (49, .if_icmp .ge 24, 52, 73), (52, .aload_n 0, 53, 0), (53, .aload_n 0, 54, 0), (54, .getfield 107, 57, 0), (57, .iconst 4, 58, 0), (58, .iload_n 3, 59, 0), (59, .imul, 60, 0), (60, .iload 4, 62, 0), (62, .iadd, 63, 0), (63, .iaload, 64, 0), (64, .invokevirtual 240, 67, 0), (67, .iinc 4 1, 70, 0), (70, .goto (-29), 73, 41), (73, .goto 61, 76, 134), (76, .aload_n 0, 77, 0), (77, .getfield 95, 80, 0), (80, .iload_n 3, 81, 0), (81, .iaload, 82, 0), (82, .iconst 1, 83, 0), (83, .if_icmp .ne 28, 86, 111), (86, .aload_n 0, 87, 0), (87, .aload_n 0, 88, 0), (88, .getfield 98, 91, 0), (91, .iload_n 3, 92, 0), (92, .iaload, 93, 0), (93, .aload_n 0, 94, 0), (94, .getfield 101, 97, 0), (97, .iload_n 3, 98, 0), (98, .iaload, 99, 0), (99, .aload_n 0, 100, 0), (100, .getfield 104, 103, 0), (103, .iload_n 3, 104, 0), (104, .iaload, 105, 0), (105, .invokevirtual 247, 108, 0), (108, .goto 25, 111, 133), (111, .aload_n 0, 112, 0), (112, .aload_n 0, 113, 0), (113, .getfield 98, 116, 0), (116, .iload_n 3, 117, 0), (117, .iaload, 118, 0), (118, .aload_n 0, 119, 0), (119, .getfield 101, 122, 0), (122, .iload_n 3, 123, 0), (123, .iaload, 124, 0), (124, .aload_n 0, 125, 0), (125, .getfield 104, 128, 0), (128, .iload_n 3, 129, 0), (129, .iaload, 130, 0), (130, .invokevirtual 250, 133, 0), (133, .istore_n 2, 134, 0), (134, .iinc 3 1, 137, 0), (137, .goto (-126), 140, 11), (140, .iload_n 2, 141, 0), (141, .ifCond .eq 16, 144, 157), (144, .aload_n 0, 145, 0), (145, .getfield 228, 148, 0), (148, .bipush 20, 150, 0), (150, .if_icmp .gt 7, 153, 157), (153, .iconst 1, 154, 0), (154, .goto 4, 157, 158), (157, .iconst 0, 158, 0), (158, .ireturn, 159, 0)]
theorem T_X12_makes_ok : T_X12_makes.all (rowB cX12_makes) = true := by decide +kernel
def th_X12_makes : List (Nat × Nat) := []
def sw_X12_makes : List (Nat × (List (Int32 × Nat) × Nat)) := []
theorem sw_X12_makes_ok : ∀ q ∈ sw_X12_makes, swS cX12_makes q := fun _ h => absurd h List.not_mem_nil
def na_X12_makes : List (Nat × Nat) := [(721, 2), (742, 4), (751, 4)]
def ca_X12_makes {R' : Type} (F : Nat) : List (Nat × cFn R') := [(721, n_X12_adds (f_X12_adds F)), (742, n_X12_cuts (f_X12_cuts F)), (751, n_X12_eachs (f_X12_eachs F))]
theorem ca_X12_makes_ok {R' : Type} {q : cL} (hst : q.1.stackTraces = false) {D : Nat} (hD : 3 ≤ D) (F : Nat) : ∀ x ∈ (ca_X12_makes (R' := R') F), 1 ≤ D ∧ ceS q RX12 (D - 1) x.1 x.2 := List.forall_mem_cons.mpr ⟨⟨by omega, n_X12_adds_ok (k := 240) (ml_ok RX12 240 yX12_adds (by decide +kernel)) (fun a0 a1 M r h => c_X12_adds hst (by omega) F a0 a1 M r h)⟩, List.forall_mem_cons.mpr ⟨⟨by omega, n_X12_cuts_ok (k := 247) (ml_ok RX12 247 yX12_cuts (by decide +kernel)) (fun a0 a1 a2 a3 M r h => c_X12_cuts hst (by omega) F a0 a1 a2 a3 M r h)⟩, List.forall_mem_cons.mpr ⟨⟨by omega, n_X12_eachs_ok (k := 250) (ml_ok RX12 250 yX12_eachs (by decide +kernel)) (fun a0 a1 a2 a3 M r h => c_X12_eachs hst (by omega) F a0 a1 a2 a3 M r h)⟩, fun _ h => absurd h List.not_mem_nil⟩⟩⟩
def kd_X12_makes_11 (g : Nat → Int32 → Int32 → Int32 → cM → Option (Int32 × cM)) : cKf (Int32 × cM) := fun vs st M => (lR vs 0).bind fun x0 => (lI vs 1).bind fun x1 => (lI vs 2).bind fun x2 => (lI vs 3).bind fun x3 => match st with
  | [] => g x0 x1 x2 x3 M
  | _ => none
theorem kf_X12_makes_11 {X : cCtx} {o : cO} {r : Int32 × cM} {g : Nat → Int32 → Int32 → Int32 → cM → Option (Int32 × cM)} (hg : ∀ x0 x1 x2 x3 M, g x0 x1 x2 x3 M = some r → WX X 5 o 11 [some (.ref x0), some (.int x1), some (.int x2), some (.int x3), none] [] M) : ∀ vs st M, kd_X12_makes_11 g vs st M = some r → WX X 5 o 11 vs st M := by
  intro vs st M h
  unfold kd_X12_makes_11 at h
  obtain ⟨x0, h0, h⟩ := Option.bind_eq_some_iff.mp h
  obtain ⟨x1, h1, h⟩ := Option.bind_eq_some_iff.mp h
  obtain ⟨x2, h2, h⟩ := Option.bind_eq_some_iff.mp h
  obtain ⟨x3, h3, h⟩ := Option.bind_eq_some_iff.mp h
  split at h
  · exact WX_weak (hg _ _ _ _ _ h) rfl ⟨lR_of h0, lI_of h1, lI_of h2, lI_of h3, trivial⟩
  · cases h
def kd_X12_makes_41 (g : Nat → Int32 → Int32 → Int32 → Int32 → cM → Option (Int32 × cM)) : cKf (Int32 × cM) := fun vs st M => (lR vs 0).bind fun x0 => (lI vs 1).bind fun x1 => (lI vs 2).bind fun x2 => (lI vs 3).bind fun x3 => (lI vs 4).bind fun x4 => match st with
  | [] => g x0 x1 x2 x3 x4 M
  | _ => none
theorem kf_X12_makes_41 {X : cCtx} {o : cO} {r : Int32 × cM} {g : Nat → Int32 → Int32 → Int32 → Int32 → cM → Option (Int32 × cM)} (hg : ∀ x0 x1 x2 x3 x4 M, g x0 x1 x2 x3 x4 M = some r → WX X 5 o 41 [some (.ref x0), some (.int x1), some (.int x2), some (.int x3), some (.int x4)] [] M) : ∀ vs st M, kd_X12_makes_41 g vs st M = some r → WX X 5 o 41 vs st M := by
  intro vs st M h
  unfold kd_X12_makes_41 at h
  obtain ⟨x0, h0, h⟩ := Option.bind_eq_some_iff.mp h
  obtain ⟨x1, h1, h⟩ := Option.bind_eq_some_iff.mp h
  obtain ⟨x2, h2, h⟩ := Option.bind_eq_some_iff.mp h
  obtain ⟨x3, h3, h⟩ := Option.bind_eq_some_iff.mp h
  obtain ⟨x4, h4, h⟩ := Option.bind_eq_some_iff.mp h
  split at h
  · exact WX_weak (hg _ _ _ _ _ _ h) rfl ⟨lR_of h0, lI_of h1, lI_of h2, lI_of h3, lI_of h4, trivial⟩
  · cases h
def kd_X12_makes_140 (g : Nat → Int32 → cM → Option (Int32 × cM)) : cKf (Int32 × cM) := fun vs st M => (lR vs 0).bind fun x0 => (lI vs 2).bind fun x2 => match st with
  | [] => g x0 x2 M
  | _ => none
theorem kf_X12_makes_140 {X : cCtx} {o : cO} {r : Int32 × cM} {g : Nat → Int32 → cM → Option (Int32 × cM)} (hg : ∀ x0 x2 M, g x0 x2 M = some r → WX X 5 o 140 [some (.ref x0), none, some (.int x2), none, none] [] M) : ∀ vs st M, kd_X12_makes_140 g vs st M = some r → WX X 5 o 140 vs st M := by
  intro vs st M h
  unfold kd_X12_makes_140 at h
  obtain ⟨x0, h0, h⟩ := Option.bind_eq_some_iff.mp h
  obtain ⟨x2, h2, h⟩ := Option.bind_eq_some_iff.mp h
  split at h
  · exact WX_weak (hg _ _ _ h) rfl ⟨lR_of h0, lI_of h2, trivial⟩
  · cases h
def f_X12_makes_140 (F : Nat) : Nat → Int32 → cM → Option (Int32 × cM) := fun x0 x2 M =>
  if x2 = 0 then (
  some ((0 : Int32), M))
  else (
  (fI M x0 10 45).bind fun v1 =>
  if (20 : Int32) < v1 then (
  some ((0 : Int32), M))
  else (
  some ((1 : Int32), M)))
set_option maxRecDepth 100000 in
theorem e_X12_makes_140 (F : Nat) (x0 : Nat) (x2 : Int32) (M : cM) : f_X12_makes_140 F x0 x2 M = run T_X12_makes P_RX12 false 1 (naL na_X12_makes) (caL (ca_X12_makes F)) (lkN th_X12_makes) (lkN sw_X12_makes) krI kxN (spL []) (KL []) 98 140 [some (.ref x0), none, some (.int x2), none, none] [] M := rfl
theorem ok_X12_makes_140 {X : cCtx} {D : Nat} {r : Int32 × cM} (G : FX X 5 (eI r) cX12_makes RX12 1 D) {F : Nat} (hca : ∀ x ∈ (ca_X12_makes (R' := Int32 × cM) F), 1 ≤ D ∧ ceS X.1 RX12 (D - 1) x.1 x.2) : ∀ x0 x2 M, f_X12_makes_140 F x0 x2 M = some r → WX X 5 (eI r) 140 [some (.ref x0), none, some (.int x2), none, none] [] M := by
  intro x0 x2 M h
  exact seg_ok G P_RX12_ok T_X12_makes_ok hca (fun _ h => absurd h List.not_mem_nil) sw_X12_makes_ok krI_ok (kxN_ok (f := eI)) (fun _ h => absurd h List.not_mem_nil) ((e_X12_makes_140 F x0 x2 M).symm.trans h)
def f_X12_makes_41 (F : Nat) (k11 : Nat → Int32 → Int32 → Int32 → cM → Option (Int32 × cM)) : Nat → Nat → Int32 → Int32 → Int32 → Int32 → cM → Option (Int32 × cM) := fun n => Nat.rec (fun _ _ _ _ _ _ => none) (fun _ ih x0 x1 x2 x3 x4 M =>
  (fR M x0 10 34).bind fun v1 =>
  (aI 0 M v1 x3).bind fun v2 =>
  if v2 ≤ x4 then (
  k11 x0 x1 x2 (x3 + (1 : Int32)) M)
  else (
  (fR M x0 10 37).bind fun v3 =>
  (aI 0 M v3 (((4 : Int32) * x3) + x4)).bind fun v4 =>
  (f_X12_adds F x0 v4 M).bind fun v5 =>
  ih x0 x1 x2 x3 (x4 + (1 : Int32)) v5)) n
set_option maxRecDepth 100000 in
theorem e_X12_makes_41 (F : Nat) (k11 : Nat → Int32 → Int32 → Int32 → cM → Option (Int32 × cM)) (n : Nat) (x0 : Nat) (x1 : Int32) (x2 : Int32) (x3 : Int32) (x4 : Int32) (M : cM) : f_X12_makes_41 F k11 (n + 1) x0 x1 x2 x3 x4 M = run T_X12_makes P_RX12 false 1 (naL na_X12_makes) (caL (ca_X12_makes F)) (lkN th_X12_makes) (lkN sw_X12_makes) krI kxN (spL [11, 41]) (KL [(11, kd_X12_makes_11 (k11)), (41, kd_X12_makes_41 (f_X12_makes_41 F k11 n))]) 98 41 [some (.ref x0), some (.int x1), some (.int x2), some (.int x3), some (.int x4)] [] M := rfl
theorem ok_X12_makes_41 {X : cCtx} {D : Nat} {r : Int32 × cM} (G : FX X 5 (eI r) cX12_makes RX12 1 D) {F : Nat} (hca : ∀ x ∈ (ca_X12_makes (R' := Int32 × cM) F), 1 ≤ D ∧ ceS X.1 RX12 (D - 1) x.1 x.2) (k11 : Nat → Int32 → Int32 → Int32 → cM → Option (Int32 × cM)) (hk11 : ∀ x0 x1 x2 x3 M, k11 x0 x1 x2 x3 M = some r → WX X 5 (eI r) 11 [some (.ref x0), some (.int x1), some (.int x2), some (.int x3), none] [] M) (n : Nat) : ∀ x0 x1 x2 x3 x4 M, f_X12_makes_41 F k11 n x0 x1 x2 x3 x4 M = some r → WX X 5 (eI r) 41 [some (.ref x0), some (.int x1), some (.int x2), some (.int x3), some (.int x4)] [] M := by
  induction n with
  | zero => intro x0 x1 x2 x3 x4 M h; cases h
  | succ n ih =>
    intro x0 x1 x2 x3 x4 M h
    exact seg_ok G P_RX12_ok T_X12_makes_ok hca (fun _ h => absurd h List.not_mem_nil) sw_X12_makes_ok krI_ok (kxN_ok (f := eI)) (List.forall_mem_cons.mpr ⟨kf_X12_makes_11 (hk11), List.forall_mem_cons.mpr ⟨kf_X12_makes_41 (ih), fun _ h => absurd h List.not_mem_nil⟩⟩) ((e_X12_makes_41 F k11 n x0 x1 x2 x3 x4 M).symm.trans h)
def f_X12_makes_11 (F : Nat) : Nat → Nat → Int32 → Int32 → Int32 → cM → Option (Int32 × cM) := fun n => Nat.rec (fun _ _ _ _ _ => none) (fun _ ih x0 x1 x2 x3 M =>
  (fR M x0 10 31).bind fun v1 =>
  (aI 0 M v1 x1).bind fun v2 =>
  if ((4 : Int32) * x1) + v2 ≤ x3 then (
  f_X12_makes_140 F x0 x2 M)
  else (
  if x2 = 0 then (
  f_X12_makes_140 F x0 x2 M)
  else (
  (fR M x0 10 33).bind fun v3 =>
  (aI 0 M v3 x3).bind fun v4 =>
  if v4 = 0 then (
  f_X12_makes_41 F ih F x0 x1 x2 x3 (0 : Int32) M)
  else (
  (fR M x0 10 33).bind fun v5 =>
  (aI 0 M v5 x3).bind fun v6 =>
  if v6 = (1 : Int32) then (
  (fR M x0 10 34).bind fun v7 =>
  (aI 0 M v7 x3).bind fun v8 =>
  (fR M x0 10 35).bind fun v9 =>
  (aI 0 M v9 x3).bind fun v10 =>
  (fR M x0 10 36).bind fun v11 =>
  (aI 0 M v11 x3).bind fun v12 =>
  (f_X12_cuts F x0 v8 v10 v12 M).bind fun v13 =>
  ih x0 x1 v13.1 (x3 + (1 : Int32)) v13.2)
  else (
  (fR M x0 10 34).bind fun v14 =>
  (aI 0 M v14 x3).bind fun v15 =>
  (fR M x0 10 35).bind fun v16 =>
  (aI 0 M v16 x3).bind fun v17 =>
  (fR M x0 10 36).bind fun v18 =>
  (aI 0 M v18 x3).bind fun v19 =>
  (f_X12_eachs F x0 v15 v17 v19 M).bind fun v20 =>
  ih x0 x1 v20.1 (x3 + (1 : Int32)) v20.2))))) n
set_option maxRecDepth 100000 in
theorem e_X12_makes_11 (F : Nat) (n : Nat) (x0 : Nat) (x1 : Int32) (x2 : Int32) (x3 : Int32) (M : cM) : f_X12_makes_11 F (n + 1) x0 x1 x2 x3 M = run T_X12_makes P_RX12 false 1 (naL na_X12_makes) (caL (ca_X12_makes F)) (lkN th_X12_makes) (lkN sw_X12_makes) krI kxN (spL [11, 41, 140]) (KL [(11, kd_X12_makes_11 (f_X12_makes_11 F n)), (41, kd_X12_makes_41 (f_X12_makes_41 F (f_X12_makes_11 F n) F)), (140, kd_X12_makes_140 (f_X12_makes_140 F))]) 98 11 [some (.ref x0), some (.int x1), some (.int x2), some (.int x3), none] [] M := rfl
theorem ok_X12_makes_11 {X : cCtx} {D : Nat} {r : Int32 × cM} (G : FX X 5 (eI r) cX12_makes RX12 1 D) {F : Nat} (hca : ∀ x ∈ (ca_X12_makes (R' := Int32 × cM) F), 1 ≤ D ∧ ceS X.1 RX12 (D - 1) x.1 x.2) (n : Nat) : ∀ x0 x1 x2 x3 M, f_X12_makes_11 F n x0 x1 x2 x3 M = some r → WX X 5 (eI r) 11 [some (.ref x0), some (.int x1), some (.int x2), some (.int x3), none] [] M := by
  induction n with
  | zero => intro x0 x1 x2 x3 M h; cases h
  | succ n ih =>
    intro x0 x1 x2 x3 M h
    exact seg_ok G P_RX12_ok T_X12_makes_ok hca (fun _ h => absurd h List.not_mem_nil) sw_X12_makes_ok krI_ok (kxN_ok (f := eI)) (List.forall_mem_cons.mpr ⟨kf_X12_makes_11 (ih), List.forall_mem_cons.mpr ⟨kf_X12_makes_41 (ok_X12_makes_41 G hca (f_X12_makes_11 F n) ih F), List.forall_mem_cons.mpr ⟨kf_X12_makes_140 (ok_X12_makes_140 G hca), fun _ h => absurd h List.not_mem_nil⟩⟩⟩) ((e_X12_makes_11 F n x0 x1 x2 x3 M).symm.trans h)
def f_X12_makes_0 (F : Nat) : Nat → Int32 → cM → Option (Int32 × cM) := fun x0 x1 M =>
  (pF M x0 10 45 (.int (0 : Int32))).bind fun M1 =>
  f_X12_makes_11 F F x0 x1 (1 : Int32) ((4 : Int32) * x1) M1
set_option maxRecDepth 100000 in
theorem e_X12_makes_0 (F : Nat) (x0 : Nat) (x1 : Int32) (M : cM) : f_X12_makes_0 F x0 x1 M = run T_X12_makes P_RX12 false 1 (naL na_X12_makes) (caL (ca_X12_makes F)) (lkN th_X12_makes) (lkN sw_X12_makes) krI kxN (spL [11]) (KL [(11, kd_X12_makes_11 (f_X12_makes_11 F F))]) 98 0 [some (.ref x0), some (.int x1), none, none, none] [] M := rfl
theorem ok_X12_makes_0 {X : cCtx} {D : Nat} {r : Int32 × cM} (G : FX X 5 (eI r) cX12_makes RX12 1 D) {F : Nat} (hca : ∀ x ∈ (ca_X12_makes (R' := Int32 × cM) F), 1 ≤ D ∧ ceS X.1 RX12 (D - 1) x.1 x.2) : ∀ x0 x1 M, f_X12_makes_0 F x0 x1 M = some r → WX X 5 (eI r) 0 [some (.ref x0), some (.int x1), none, none, none] [] M := by
  intro x0 x1 M h
  exact seg_ok G P_RX12_ok T_X12_makes_ok hca (fun _ h => absurd h List.not_mem_nil) sw_X12_makes_ok krI_ok (kxN_ok (f := eI)) (List.forall_mem_cons.mpr ⟨kf_X12_makes_11 (ok_X12_makes_11 G hca F), fun _ h => absurd h List.not_mem_nil⟩) ((e_X12_makes_0 F x0 x1 M).symm.trans h)
def f_X12_makes (F : Nat) : Nat → Int32 → cM → Option (Int32 × cM) := fun a0 a1 M => if isC M a0 10 = true then f_X12_makes_0 F a0 a1 M else none
theorem c_X12_makes {q : cL} (hst : q.1.stackTraces = false) {D : Nat} (hD : 3 ≤ D) (F : Nat) (a0 : Nat) (a1 : Int32) (M : cM) (r : Int32 × cM) (h : f_X12_makes F a0 a1 M = some r) : CTx q yX12_makes (.code yX12_makes cX12_makes 5 (some .boolean)) D [.ref a0, .int a1] M (eI r) ∧ ∃ fs, M[a0]? = some (.inr (10, fs)) := by
  unfold f_X12_makes at h
  split at h
  · next hi => exact ⟨CTx_of (own := RX12) (rk := 1) hst (by decide +kernel) rfl (rfl) (Nat.le_of_ble_eq_true rfl) (fun X hX G => by subst hX; exact ok_X12_makes_0 G (ca_X12_makes_ok hst hD F) a0 a1 M h), isC_of hi⟩
  · cases h
def n_X12_makes {R' : Type} (f : Nat → Int32 → cM → Option (Int32 × cM)) : cFn R' := fun as M κ κx => match as with
  | [.ref a0, .int a1] => (f a0 a1 M).bind fun p => κ (some (.int p.1)) p.2
  | _ => none
theorem w_X12_makes : ∀ w ∈ [Cond.instanceMethod yX12_makes, .selects yX12_makes.cls yX12_makes yX12_makes, .initialized yX12_makes.cls, .code yX12_makes cX12_makes 5 (some .boolean)], w ∈ lw_good := wl_ok (by decide +kernel)
theorem n_X12_makes_ok {R' : Type} {q : cL} {own : String} {d k : Nat} {f : Nat → Int32 → cM → Option (Int32 × cM)} (hl : Cond.methodLink own k yX12_makes ∈ lw_good) (hf : ∀ a0 a1 M r, f a0 a1 M = some r → CTx q yX12_makes (.code yX12_makes cX12_makes 5 (some .boolean)) d [.ref a0, .int a1] M (eI r) ∧ ∃ fs, M[a0]? = some (.inr (10, fs))) : ceS q own d (3 * k + 1) (n_X12_makes (R' := R') f) := by
  intro as M κ κx r h
  unfold n_X12_makes at h
  split at h
  · obtain ⟨p, h1, h2⟩ := Option.bind_eq_some_iff.mp h
    obtain ⟨hc, fs, ha⟩ := hf _ _ _ _ h1
    exact ⟨eI p, fun _ => h2, fun hne => absurd rfl hne, Or.inr ⟨yX12_makes, cX12_makes, 5, (some .boolean), k, 1, _, _, 10, TX12, 76, fs, rfl, rfl, hc, ha, rfl, List.forall_mem_cons.mpr ⟨hl, w_X12_makes⟩, ⟨rfl, by decide +kernel, by decide +kernel, by decide +kernel⟩, rfl, by decide⟩⟩
  · cases h
-- PatchbayScriptModel.copies(II)V
def T_X12_copies : List cRow := [(0, .aload_n 0, 1, 0), (1, .getfield 89, 4, 0), (4, .iload_n 2, 5, 0), (5, .aload_n 0, 6, 0), (6, .getfield 89, 9, 0), (9, .iload_n 1, 10, 0), (10, .iaload, 11, 0), (11, .iastore, 12, 0), (12, .aload_n 0, 13, 0), (13, .getfield 92, 16, 0), (16, .iload_n 2, 17, 0), (17, .aload_n 0, 18, 0), (18, .getfield 92, 21, 0), (21, .iload_n 1, 22, 0), (22, .iaload, 23, 0), (23, .iastore, 24, 0), (24, .iconst 0, 25, 0), (25, .istore_n 3, 26, 0), (26, .iload_n 3, 27, 0), (27, .iconst 4, 28, 0), (28, .if_icmp .ge 89, 31, 117), (31, .aload_n 0, 32, 0), (32, .getfield 95, 35, 0), (35, .iconst 4, 36, 0), (36, .iload_n 2, 37, 0), (37, .imul, 38, 0), (38, .iload_n 3, 39, 0), (39, .iadd, 40, 0), (40, .aload_n 0, 41, 0), (41, .getfield 95, 44, 0), (44, .iconst 4, 45, 0), (45, .iload_n 1, 46, 0), (46, .imul, 47, 0), (47, .iload_n 3, 48, 0), (48, .iadd, 49, 0), (49, .iaload, 50, 0), (50, .iastore, 51, 0), (51, .aload_n 0, 52, 0), (52, .getfield 98, 55, 0), (55, .iconst 4, 56, 0), (56, .iload_n 2, 57, 0), (57, .imul, 58, 0), (58, .iload_n 3, 59, 0), (59, .iadd, 60, 0), (60, .aload_n 0, 61, 0), (61, .getfield 98, 64, 0), (64, .iconst 4, 65, 0), (65, .iload_n 1, 66, 0), (66, .imul, 67, 0), (67, .iload_n 3, 68, 0), (68, .iadd, 69, 0), (69, .iaload, 70, 0), (70, .iastore, 71, 0), (71, .aload_n 0, 72, 0), (72, .getfield 101, 75, 0), (75, .iconst 4, 76, 0), (76, .iload_n 2, 77, 0), (77, .imul, 78, 0), (78, .iload_n 3, 79, 0), (79, .iadd, 80, 0), (80, .aload_n 0, 81, 0), (81, .getfield 101, 84, 0), (84, .iconst 4, 85, 0), (85, .iload_n 1, 86, 0), (86, .imul, 87, 0), (87, .iload_n 3, 88, 0), (88, .iadd, 89, 0), (89, .iaload, 90, 0), (90, .iastore, 91, 0), (91, .aload_n 0, 92, 0), (92, .getfield 104, 95, 0), (95, .iconst 4, 96, 0), (96, .iload_n 2, 97, 0), (97, .imul, 98, 0), (98, .iload_n 3, 99, 0), (99, .iadd, 100, 0), (100, .aload_n 0, 101, 0), (101, .getfield 104, 104, 0), (104, .iconst 4, 105, 0), (105, .iload_n 1, 106, 0), (106, .imul, 107, 0), (107, .iload_n 3, 108, 0), (108, .iadd, 109, 0), (109, .iaload, 110, 0), (110, .iastore, 111, 0), (111, .iinc 3 1, 114, 0), (114, .goto (-88), 117, 26), (117, .iconst 0, 118, 0), (118, .istore_n 3, 119, 0), (119, .iload_n 3, 120, 0), (120, .bipush 16, 122, 0), (122, .if_icmp .ge 31, 125, 153), (125, .aload_n 0, 126, 0), (126, .getfield 107, 129, 0), (129, .bipush 16, 131, 0), (131, .iload_n 2, 132, 0), (132, .imul, 133, 0), (133, .iload_n 3, 134, 0), (134, .iadd, 135, 0), (135, .aload_n 0, 136, 0), (136, .getfield 107, 139, 0), (139, .bipush 16, 141, 0), (141, .iload_n 1, 142, 0), (142, .imul, 143, 0), (143, .iload_n 3, 144, 0), (144, .iadd, 145, 0), (145, .iaload, 146, 0), (146, .iastore, 147, 0), (147, .iinc 3 1, 150, 0), (150, .goto (-31), 153, 119), (153, .return_, 154, 0)]
theorem T_X12_copies_ok : T_X12_copies.all (rowB cX12_copies) = true := by decide +kernel
def th_X12_copies : List (Nat × Nat) := []
def sw_X12_copies : List (Nat × (List (Int32 × Nat) × Nat)) := []
theorem sw_X12_copies_ok : ∀ q ∈ sw_X12_copies, swS cX12_copies q := fun _ h => absurd h List.not_mem_nil
def na_X12_copies : List (Nat × Nat) := []
def ca_X12_copies {R' : Type} (F : Nat) : List (Nat × cFn R') := []
theorem ca_X12_copies_ok {R' : Type} {q : cL} (hst : q.1.stackTraces = false) {D : Nat} (hD : 0 ≤ D) (F : Nat) : ∀ x ∈ (ca_X12_copies (R' := R') F), 1 ≤ D ∧ ceS q RX12 (D - 1) x.1 x.2 := fun _ h => absurd h List.not_mem_nil
def kd_X12_copies_26 (g : Nat → Int32 → Int32 → Int32 → cM → Option (cM)) : cKf (cM) := fun vs st M => (lR vs 0).bind fun x0 => (lI vs 1).bind fun x1 => (lI vs 2).bind fun x2 => (lI vs 3).bind fun x3 => match st with
  | [] => g x0 x1 x2 x3 M
  | _ => none
theorem kf_X12_copies_26 {X : cCtx} {o : cO} {r : cM} {g : Nat → Int32 → Int32 → Int32 → cM → Option (cM)} (hg : ∀ x0 x1 x2 x3 M, g x0 x1 x2 x3 M = some r → WX X 4 o 26 [some (.ref x0), some (.int x1), some (.int x2), some (.int x3)] [] M) : ∀ vs st M, kd_X12_copies_26 g vs st M = some r → WX X 4 o 26 vs st M := by
  intro vs st M h
  unfold kd_X12_copies_26 at h
  obtain ⟨x0, h0, h⟩ := Option.bind_eq_some_iff.mp h
  obtain ⟨x1, h1, h⟩ := Option.bind_eq_some_iff.mp h
  obtain ⟨x2, h2, h⟩ := Option.bind_eq_some_iff.mp h
  obtain ⟨x3, h3, h⟩ := Option.bind_eq_some_iff.mp h
  split at h
  · exact WX_weak (hg _ _ _ _ _ h) rfl ⟨lR_of h0, lI_of h1, lI_of h2, lI_of h3, trivial⟩
  · cases h
def kd_X12_copies_119 (g : Nat → Int32 → Int32 → Int32 → cM → Option (cM)) : cKf (cM) := fun vs st M => (lR vs 0).bind fun x0 => (lI vs 1).bind fun x1 => (lI vs 2).bind fun x2 => (lI vs 3).bind fun x3 => match st with
  | [] => g x0 x1 x2 x3 M
  | _ => none
theorem kf_X12_copies_119 {X : cCtx} {o : cO} {r : cM} {g : Nat → Int32 → Int32 → Int32 → cM → Option (cM)} (hg : ∀ x0 x1 x2 x3 M, g x0 x1 x2 x3 M = some r → WX X 4 o 119 [some (.ref x0), some (.int x1), some (.int x2), some (.int x3)] [] M) : ∀ vs st M, kd_X12_copies_119 g vs st M = some r → WX X 4 o 119 vs st M := by
  intro vs st M h
  unfold kd_X12_copies_119 at h
  obtain ⟨x0, h0, h⟩ := Option.bind_eq_some_iff.mp h
  obtain ⟨x1, h1, h⟩ := Option.bind_eq_some_iff.mp h
  obtain ⟨x2, h2, h⟩ := Option.bind_eq_some_iff.mp h
  obtain ⟨x3, h3, h⟩ := Option.bind_eq_some_iff.mp h
  split at h
  · exact WX_weak (hg _ _ _ _ _ h) rfl ⟨lR_of h0, lI_of h1, lI_of h2, lI_of h3, trivial⟩
  · cases h
def f_X12_copies_119 (F : Nat) : Nat → Nat → Int32 → Int32 → Int32 → cM → Option (cM) := fun n => Nat.rec (fun _ _ _ _ _ => none) (fun _ ih x0 x1 x2 x3 M =>
  if (16 : Int32) ≤ x3 then (
  some M)
  else (
  (fR M x0 10 37).bind fun v1 =>
  (fR M x0 10 37).bind fun v2 =>
  (aI 0 M v2 (((16 : Int32) * x1) + x3)).bind fun v3 =>
  (sI 0 M v1 (((16 : Int32) * x2) + x3) v3).bind fun M4 =>
  ih x0 x1 x2 (x3 + (1 : Int32)) M4)) n
set_option maxRecDepth 100000 in
theorem e_X12_copies_119 (F : Nat) (n : Nat) (x0 : Nat) (x1 : Int32) (x2 : Int32) (x3 : Int32) (M : cM) : f_X12_copies_119 F (n + 1) x0 x1 x2 x3 M = run T_X12_copies P_RX12 false 5 (naL na_X12_copies) (caL (ca_X12_copies F)) (lkN th_X12_copies) (lkN sw_X12_copies) krV kxN (spL [119]) (KL [(119, kd_X12_copies_119 (f_X12_copies_119 F n))]) 114 119 [some (.ref x0), some (.int x1), some (.int x2), some (.int x3)] [] M := rfl
theorem ok_X12_copies_119 {X : cCtx} {D : Nat} {r : cM} (G : FX X 4 (eV r) cX12_copies RX12 5 D) {F : Nat} (hca : ∀ x ∈ (ca_X12_copies (R' := cM) F), 1 ≤ D ∧ ceS X.1 RX12 (D - 1) x.1 x.2) (n : Nat) : ∀ x0 x1 x2 x3 M, f_X12_copies_119 F n x0 x1 x2 x3 M = some r → WX X 4 (eV r) 119 [some (.ref x0), some (.int x1), some (.int x2), some (.int x3)] [] M := by
  induction n with
  | zero => intro x0 x1 x2 x3 M h; cases h
  | succ n ih =>
    intro x0 x1 x2 x3 M h
    exact seg_ok G P_RX12_ok T_X12_copies_ok hca (fun _ h => absurd h List.not_mem_nil) sw_X12_copies_ok krV_ok (kxN_ok (f := eV)) (List.forall_mem_cons.mpr ⟨kf_X12_copies_119 (ih), fun _ h => absurd h List.not_mem_nil⟩) ((e_X12_copies_119 F n x0 x1 x2 x3 M).symm.trans h)
def f_X12_copies_26 (F : Nat) : Nat → Nat → Int32 → Int32 → Int32 → cM → Option (cM) := fun n => Nat.rec (fun _ _ _ _ _ => none) (fun _ ih x0 x1 x2 x3 M =>
  if (4 : Int32) ≤ x3 then (
  f_X12_copies_119 F F x0 x1 x2 (0 : Int32) M)
  else (
  (fR M x0 10 33).bind fun v1 =>
  (fR M x0 10 33).bind fun v2 =>
  (aI 0 M v2 (((4 : Int32) * x1) + x3)).bind fun v3 =>
  (sI 0 M v1 (((4 : Int32) * x2) + x3) v3).bind fun M4 =>
  (fR M4 x0 10 34).bind fun v5 =>
  (fR M4 x0 10 34).bind fun v6 =>
  (aI 0 M4 v6 (((4 : Int32) * x1) + x3)).bind fun v7 =>
  (sI 0 M4 v5 (((4 : Int32) * x2) + x3) v7).bind fun M8 =>
  (fR M8 x0 10 35).bind fun v9 =>
  (fR M8 x0 10 35).bind fun v10 =>
  (aI 0 M8 v10 (((4 : Int32) * x1) + x3)).bind fun v11 =>
  (sI 0 M8 v9 (((4 : Int32) * x2) + x3) v11).bind fun M12 =>
  (fR M12 x0 10 36).bind fun v13 =>
  (fR M12 x0 10 36).bind fun v14 =>
  (aI 0 M12 v14 (((4 : Int32) * x1) + x3)).bind fun v15 =>
  (sI 0 M12 v13 (((4 : Int32) * x2) + x3) v15).bind fun M16 =>
  ih x0 x1 x2 (x3 + (1 : Int32)) M16)) n
set_option maxRecDepth 100000 in
theorem e_X12_copies_26 (F : Nat) (n : Nat) (x0 : Nat) (x1 : Int32) (x2 : Int32) (x3 : Int32) (M : cM) : f_X12_copies_26 F (n + 1) x0 x1 x2 x3 M = run T_X12_copies P_RX12 false 5 (naL na_X12_copies) (caL (ca_X12_copies F)) (lkN th_X12_copies) (lkN sw_X12_copies) krV kxN (spL [26, 119]) (KL [(26, kd_X12_copies_26 (f_X12_copies_26 F n)), (119, kd_X12_copies_119 (f_X12_copies_119 F F))]) 114 26 [some (.ref x0), some (.int x1), some (.int x2), some (.int x3)] [] M := rfl
theorem ok_X12_copies_26 {X : cCtx} {D : Nat} {r : cM} (G : FX X 4 (eV r) cX12_copies RX12 5 D) {F : Nat} (hca : ∀ x ∈ (ca_X12_copies (R' := cM) F), 1 ≤ D ∧ ceS X.1 RX12 (D - 1) x.1 x.2) (n : Nat) : ∀ x0 x1 x2 x3 M, f_X12_copies_26 F n x0 x1 x2 x3 M = some r → WX X 4 (eV r) 26 [some (.ref x0), some (.int x1), some (.int x2), some (.int x3)] [] M := by
  induction n with
  | zero => intro x0 x1 x2 x3 M h; cases h
  | succ n ih =>
    intro x0 x1 x2 x3 M h
    exact seg_ok G P_RX12_ok T_X12_copies_ok hca (fun _ h => absurd h List.not_mem_nil) sw_X12_copies_ok krV_ok (kxN_ok (f := eV)) (List.forall_mem_cons.mpr ⟨kf_X12_copies_26 (ih), List.forall_mem_cons.mpr ⟨kf_X12_copies_119 (ok_X12_copies_119 G hca F), fun _ h => absurd h List.not_mem_nil⟩⟩) ((e_X12_copies_26 F n x0 x1 x2 x3 M).symm.trans h)
def f_X12_copies_0 (F : Nat) : Nat → Int32 → Int32 → cM → Option (cM) := fun x0 x1 x2 M =>
  (fR M x0 10 31).bind fun v1 =>
  (fR M x0 10 31).bind fun v2 =>
  (aI 0 M v2 x1).bind fun v3 =>
  (sI 0 M v1 x2 v3).bind fun M4 =>
  (fR M4 x0 10 32).bind fun v5 =>
  (fR M4 x0 10 32).bind fun v6 =>
  (aI 0 M4 v6 x1).bind fun v7 =>
  (sI 0 M4 v5 x2 v7).bind fun M8 =>
  f_X12_copies_26 F F x0 x1 x2 (0 : Int32) M8
set_option maxRecDepth 100000 in
theorem e_X12_copies_0 (F : Nat) (x0 : Nat) (x1 : Int32) (x2 : Int32) (M : cM) : f_X12_copies_0 F x0 x1 x2 M = run T_X12_copies P_RX12 false 5 (naL na_X12_copies) (caL (ca_X12_copies F)) (lkN th_X12_copies) (lkN sw_X12_copies) krV kxN (spL [26]) (KL [(26, kd_X12_copies_26 (f_X12_copies_26 F F))]) 114 0 [some (.ref x0), some (.int x1), some (.int x2), none] [] M := rfl
theorem ok_X12_copies_0 {X : cCtx} {D : Nat} {r : cM} (G : FX X 4 (eV r) cX12_copies RX12 5 D) {F : Nat} (hca : ∀ x ∈ (ca_X12_copies (R' := cM) F), 1 ≤ D ∧ ceS X.1 RX12 (D - 1) x.1 x.2) : ∀ x0 x1 x2 M, f_X12_copies_0 F x0 x1 x2 M = some r → WX X 4 (eV r) 0 [some (.ref x0), some (.int x1), some (.int x2), none] [] M := by
  intro x0 x1 x2 M h
  exact seg_ok G P_RX12_ok T_X12_copies_ok hca (fun _ h => absurd h List.not_mem_nil) sw_X12_copies_ok krV_ok (kxN_ok (f := eV)) (List.forall_mem_cons.mpr ⟨kf_X12_copies_26 (ok_X12_copies_26 G hca F), fun _ h => absurd h List.not_mem_nil⟩) ((e_X12_copies_0 F x0 x1 x2 M).symm.trans h)
def f_X12_copies (F : Nat) : Nat → Int32 → Int32 → cM → Option (cM) := fun a0 a1 a2 M => if isC M a0 10 = true then f_X12_copies_0 F a0 a1 a2 M else none
theorem c_X12_copies {q : cL} (hst : q.1.stackTraces = false) {D : Nat} (hD : 0 ≤ D) (F : Nat) (a0 : Nat) (a1 : Int32) (a2 : Int32) (M : cM) (r : cM) (h : f_X12_copies F a0 a1 a2 M = some r) : CTx q yX12_copies (.code yX12_copies cX12_copies 4 none) D [.ref a0, .int a1, .int a2] M (eV r) ∧ ∃ fs, M[a0]? = some (.inr (10, fs)) := by
  unfold f_X12_copies at h
  split at h
  · next hi => exact ⟨CTx_of (own := RX12) (rk := 5) hst (by decide +kernel) rfl (rfl) (Nat.le_of_ble_eq_true rfl) (fun X hX G => by subst hX; exact ok_X12_copies_0 G (ca_X12_copies_ok hst hD F) a0 a1 a2 M h), isC_of hi⟩
  · cases h
def n_X12_copies {R' : Type} (f : Nat → Int32 → Int32 → cM → Option (cM)) : cFn R' := fun as M κ κx => match as with
  | [.ref a0, .int a1, .int a2] => (f a0 a1 a2 M).bind fun p => κ none p
  | _ => none
theorem w_X12_copies : ∀ w ∈ [Cond.instanceMethod yX12_copies, .selects yX12_copies.cls yX12_copies yX12_copies, .initialized yX12_copies.cls, .code yX12_copies cX12_copies 4 none], w ∈ lw_good := wl_ok (by decide +kernel)
theorem n_X12_copies_ok {R' : Type} {q : cL} {own : String} {d k : Nat} {f : Nat → Int32 → Int32 → cM → Option (cM)} (hl : Cond.methodLink own k yX12_copies ∈ lw_good) (hf : ∀ a0 a1 a2 M r, f a0 a1 a2 M = some r → CTx q yX12_copies (.code yX12_copies cX12_copies 4 none) d [.ref a0, .int a1, .int a2] M (eV r) ∧ ∃ fs, M[a0]? = some (.inr (10, fs))) : ceS q own d (3 * k + 1) (n_X12_copies (R' := R') f) := by
  intro as M κ κx r h
  unfold n_X12_copies at h
  split at h
  · obtain ⟨p, h1, h2⟩ := Option.bind_eq_some_iff.mp h
    obtain ⟨hc, fs, ha⟩ := hf _ _ _ _ _ h1
    exact ⟨eV p, fun _ => h2, fun hne => absurd rfl hne, Or.inr ⟨yX12_copies, cX12_copies, 4, none, k, 2, _, _, 10, TX12, 76, fs, rfl, rfl, hc, ha, rfl, List.forall_mem_cons.mpr ⟨hl, w_X12_copies⟩, ⟨rfl, by decide +kernel, by decide +kernel, by decide +kernel⟩, rfl, by decide⟩⟩
  · cases h
