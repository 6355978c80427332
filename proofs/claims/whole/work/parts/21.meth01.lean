/-! METHODS, part 1 (laid by wip/whole/tools/gen.py) -/
-- PatchbayScript$Atom.isCut(III)Z
def T_X0_isCut : List cRow := [(0, .iload_n 0, 1, 0), (1, .ifCond .lt 32, 4, 33), (4, .iload_n 0, 5, 0), (5, .bipush 30, 7, 0), (7, .if_icmp .ge 26, 10, 33), (10, .iload_n 1, 11, 0), (11, .ifCond .lt 22, 14, 33), (14, .iload_n 1, 15, 0), (15, .bipush 30, 17, 0), (17, .if_icmp .ge 16, 20, 33), (20, .iload_n 2, 21, 0), (21, .ifCond .lt 12, 24, 33), (24, .iload_n 2, 25, 0), (25, .iconst 4, 26, 0), (26, .if_icmp .ge 7, 29, 33), (29, .iconst 1, 30, 0), (30, .goto 4, 33, 34), (33, .iconst 0, 34, 0), (34, .ireturn, 35, 0)]
theorem T_X0_isCut_ok : T_X0_isCut.all (rowB cX0_isCut) = true := by decide +kernel
def th_X0_isCut : List (Nat × Nat) := []
def sw_X0_isCut : List (Nat × (List (Int32 × Nat) × Nat)) := []
theorem sw_X0_isCut_ok : ∀ q ∈ sw_X0_isCut, swS cX0_isCut q := fun _ h => absurd h List.not_mem_nil
def na_X0_isCut : List (Nat × Nat) := []
def ca_X0_isCut {R' : Type} (F : Nat) : List (Nat × cFn R') := []
theorem ca_X0_isCut_ok {R' : Type} {q : cL} (hst : q.1.stackTraces = false) {D : Nat} (hD : 0 ≤ D) (F : Nat) : ∀ x ∈ (ca_X0_isCut (R' := R') F), 1 ≤ D ∧ ceS q RX0 (D - 1) x.1 x.2 := fun _ h => absurd h List.not_mem_nil
theorem e_X0_isCut_0 (F : Nat) (x0 : Int32) (x1 : Int32) (x2 : Int32) (M : cM) : b_X0_isCut_0 F x0 x1 x2 M = run T_X0_isCut P_RX0 false 1 (naL na_X0_isCut) (caL (ca_X0_isCut F)) (lkN th_X0_isCut) (lkN sw_X0_isCut) krI kxN (spL []) (KL []) 22 0 [some (.int x0), some (.int x1), some (.int x2)] [] M := rfl
theorem ok_X0_isCut_0 {X : cCtx} {D : Nat} {r : Int32 × cM} (G : FX X 3 (eI r) cX0_isCut RX0 1 D) {F : Nat} (hca : ∀ x ∈ (ca_X0_isCut (R' := Int32 × cM) F), 1 ≤ D ∧ ceS X.1 RX0 (D - 1) x.1 x.2) : ∀ x0 x1 x2 M, f_X0_isCut_0 F x0 x1 x2 M = some r → WX X 3 (eI r) 0 [some (.int x0), some (.int x1), some (.int x2)] [] M := by
  intro x0 x1 x2 M h
  exact seg_ok G P_RX0_ok T_X0_isCut_ok hca (fun _ h => absurd h List.not_mem_nil) sw_X0_isCut_ok krI_ok (kxN_ok (f := eI)) (fun _ h => absurd h List.not_mem_nil) ((e_X0_isCut_0 F x0 x1 x2 M).symm.trans h)
theorem c_X0_isCut {q : cL} (hst : q.1.stackTraces = false) {D : Nat} (hD : 0 ≤ D) (F : Nat) (a0 : Int32) (a1 : Int32) (a2 : Int32) (M : cM) (r : Int32 × cM) (h : f_X0_isCut F a0 a1 a2 M = some r) : CTx q yX0_isCut (.code yX0_isCut cX0_isCut 3 (some .boolean)) D [.int a0, .int a1, .int a2] M (eI r) := by
  exact CTx_of (own := RX0) (rk := 1) hst (by decide +kernel) rfl (rfl) (Nat.le_of_ble_eq_true rfl) (fun X hX G => by subst hX; exact ok_X0_isCut_0 G (ca_X0_isCut_ok hst hD F) a0 a1 a2 M h)
def n_X0_isCut {R' : Type} (f : Int32 → Int32 → Int32 → cM → Option (Int32 × cM)) : cFn R' := fun as M κ κx => match as with
  | [.int a0, .int a1, .int a2] => (f a0 a1 a2 M).bind fun p => κ (some (.int p.1)) p.2
  | _ => none
theorem w_X0_isCut : ∀ w ∈ [Cond.static yX0_isCut, .initialized yX0_isCut.cls, .code yX0_isCut cX0_isCut 3 (some .boolean)], w ∈ lw_good := List.forall_mem_cons.mpr ⟨lw_good_of (tb_ok 727 (by decide +kernel)) rfl, List.forall_mem_cons.mpr ⟨lw_good_of (tb_ok 19 (by decide +kernel)) rfl, List.forall_mem_cons.mpr ⟨lw_good_of (tb_ok 728 (by decide +kernel)) rfl, fun _ h => absurd h List.not_mem_nil⟩⟩⟩
theorem n_X0_isCut_ok {R' : Type} {q : cL} {own : String} {d k : Nat} {f : Int32 → Int32 → Int32 → cM → Option (Int32 × cM)} (hl : Cond.methodLink own k yX0_isCut ∈ lw_good) (hf : ∀ a0 a1 a2 M r, f a0 a1 a2 M = some r → CTx q yX0_isCut (.code yX0_isCut cX0_isCut 3 (some .boolean)) d [.int a0, .int a1, .int a2] M (eI r)) : ceS q own d (3 * k) (n_X0_isCut (R' := R') f) := by
  intro as M κ κx r h
  unfold n_X0_isCut at h
  split at h
  · obtain ⟨p, h1, h2⟩ := Option.bind_eq_some_iff.mp h
    exact ⟨eI p, fun _ => h2, fun hne => absurd rfl hne, Or.inl ⟨yX0_isCut, cX0_isCut, 3, (some .boolean), k, 3, rfl, hf _ _ _ _ _ h1, List.forall_mem_cons.mpr ⟨hl, w_X0_isCut⟩, ⟨by decide +kernel, by decide +kernel, by decide +kernel⟩, rfl, by decide⟩⟩
  · cases h
-- PatchbayScript$Atom.isEach(III)Z
def T_X0_isEach : List cRow := [(0, .iload_n 0, 1, 0), (1, .ifCond .lt 31, 4, 32), (4, .iload_n 0, 5, 0), (5, .iconst 4, 6, 0), (6, .if_icmp .ge 26, 9, 32), (9, .iload_n 1, 10, 0), (10, .ifCond .lt 22, 13, 32), (13, .iload_n 1, 14, 0), (14, .iconst 3, 15, 0), (15, .if_icmp .ge 17, 18, 32), (18, .iload_n 2, 19, 0), (19, .ifCond .lt 13, 22, 32), (22, .iload_n 2, 23, 0), (23, .bipush 6, 25, 0), (25, .if_icmp .ge 7, 28, 32), (28, .iconst 1, 29, 0), (29, .goto 4, 32, 33), (32, .iconst 0, 33, 0), (33, .ireturn, 34, 0)]
theorem T_X0_isEach_ok : T_X0_isEach.all (rowB cX0_isEach) = true := by decide +kernel
def th_X0_isEach : List (Nat × Nat) := []
def sw_X0_isEach : List (Nat × (List (Int32 × Nat) × Nat)) := []
theorem sw_X0_isEach_ok : ∀ q ∈ sw_X0_isEach, swS cX0_isEach q := fun _ h => absurd h List.not_mem_nil
def na_X0_isEach : List (Nat × Nat) := []
def ca_X0_isEach {R' : Type} (F : Nat) : List (Nat × cFn R') := []
theorem ca_X0_isEach_ok {R' : Type} {q : cL} (hst : q.1.stackTraces = false) {D : Nat} (hD : 0 ≤ D) (F : Nat) : ∀ x ∈ (ca_X0_isEach (R' := R') F), 1 ≤ D ∧ ceS q RX0 (D - 1) x.1 x.2 := fun _ h => absurd h List.not_mem_nil
theorem e_X0_isEach_0 (F : Nat) (x0 : Int32) (x1 : Int32) (x2 : Int32) (M : cM) : b_X0_isEach_0 F x0 x1 x2 M = run T_X0_isEach P_RX0 false 1 (naL na_X0_isEach) (caL (ca_X0_isEach F)) (lkN th_X0_isEach) (lkN sw_X0_isEach) krI kxN (spL []) (KL []) 22 0 [some (.int x0), some (.int x1), some (.int x2)] [] M := rfl
theorem ok_X0_isEach_0 {X : cCtx} {D : Nat} {r : Int32 × cM} (G : FX X 3 (eI r) cX0_isEach RX0 1 D) {F : Nat} (hca : ∀ x ∈ (ca_X0_isEach (R' := Int32 × cM) F), 1 ≤ D ∧ ceS X.1 RX0 (D - 1) x.1 x.2) : ∀ x0 x1 x2 M, f_X0_isEach_0 F x0 x1 x2 M = some r → WX X 3 (eI r) 0 [some (.int x0), some (.int x1), some (.int x2)] [] M := by
  intro x0 x1 x2 M h
  exact seg_ok G P_RX0_ok T_X0_isEach_ok hca (fun _ h => absurd h List.not_mem_nil) sw_X0_isEach_ok krI_ok (kxN_ok (f := eI)) (fun _ h => absurd h List.not_mem_nil) ((e_X0_isEach_0 F x0 x1 x2 M).symm.trans h)
theorem c_X0_isEach {q : cL} (hst : q.1.stackTraces = false) {D : Nat} (hD : 0 ≤ D) (F : Nat) (a0 : Int32) (a1 : Int32) (a2 : Int32) (M : cM) (r : Int32 × cM) (h : f_X0_isEach F a0 a1 a2 M = some r) : CTx q yX0_isEach (.code yX0_isEach cX0_isEach 3 (some .boolean)) D [.int a0, .int a1, .int a2] M (eI r) := by
  exact CTx_of (own := RX0) (rk := 1) hst (by decide +kernel) rfl (rfl) (Nat.le_of_ble_eq_true rfl) (fun X hX G => by subst hX; exact ok_X0_isEach_0 G (ca_X0_isEach_ok hst hD F) a0 a1 a2 M h)
def n_X0_isEach {R' : Type} (f : Int32 → Int32 → Int32 → cM → Option (Int32 × cM)) : cFn R' := fun as M κ κx => match as with
  | [.int a0, .int a1, .int a2] => (f a0 a1 a2 M).bind fun p => κ (some (.int p.1)) p.2
  | _ => none
theorem w_X0_isEach : ∀ w ∈ [Cond.static yX0_isEach, .initialized yX0_isEach.cls, .code yX0_isEach cX0_isEach 3 (some .boolean)], w ∈ lw_good := List.forall_mem_cons.mpr ⟨lw_good_of (tb_ok 730 (by decide +kernel)) rfl, List.forall_mem_cons.mpr ⟨lw_good_of (tb_ok 19 (by decide +kernel)) rfl, List.forall_mem_cons.mpr ⟨lw_good_of (tb_ok 731 (by decide +kernel)) rfl, fun _ h => absurd h List.not_mem_nil⟩⟩⟩
theorem n_X0_isEach_ok {R' : Type} {q : cL} {own : String} {d k : Nat} {f : Int32 → Int32 → Int32 → cM → Option (Int32 × cM)} (hl : Cond.methodLink own k yX0_isEach ∈ lw_good) (hf : ∀ a0 a1 a2 M r, f a0 a1 a2 M = some r → CTx q yX0_isEach (.code yX0_isEach cX0_isEach 3 (some .boolean)) d [.int a0, .int a1, .int a2] M (eI r)) : ceS q own d (3 * k) (n_X0_isEach (R' := R') f) := by
  intro as M κ κx r h
  unfold n_X0_isEach at h
  split at h
  · obtain ⟨p, h1, h2⟩ := Option.bind_eq_some_iff.mp h
    exact ⟨eI p, fun _ => h2, fun hne => absurd rfl hne, Or.inl ⟨yX0_isEach, cX0_isEach, 3, (some .boolean), k, 3, rfl, hf _ _ _ _ _ h1, List.forall_mem_cons.mpr ⟨hl, w_X0_isEach⟩, ⟨by decide +kernel, by decide +kernel, by decide +kernel⟩, rfl, by decide⟩⟩
  · cases h
-- PatchbayScript$Atom.cut(III)I
def T_X0_cut : List cRow := [(0, .iload_n 0, 1, 0), (1, .bipush 30, 3, 0), (3, .imul, 4, 0), (4, .iload_n 1, 5, 0), (5, .iadd, 6, 0), (6, .iconst 4, 7, 0), (7, .imul, 8, 0), (8, .iload_n 2, 9, 0), (9, .iadd, 10, 0), (10, .ireturn, 11, 0)]
theorem T_X0_cut_ok : T_X0_cut.all (rowB cX0_cut) = true := by decide +kernel
def th_X0_cut : List (Nat × Nat) := []
def sw_X0_cut : List (Nat × (List (Int32 × Nat) × Nat)) := []
theorem sw_X0_cut_ok : ∀ q ∈ sw_X0_cut, swS cX0_cut q := fun _ h => absurd h List.not_mem_nil
def na_X0_cut : List (Nat × Nat) := []
def ca_X0_cut {R' : Type} (F : Nat) : List (Nat × cFn R') := []
theorem ca_X0_cut_ok {R' : Type} {q : cL} (hst : q.1.stackTraces = false) {D : Nat} (hD : 0 ≤ D) (F : Nat) : ∀ x ∈ (ca_X0_cut (R' := R') F), 1 ≤ D ∧ ceS q RX0 (D - 1) x.1 x.2 := fun _ h => absurd h List.not_mem_nil
theorem e_X0_cut_0 (F : Nat) (x0 : Int32) (x1 : Int32) (x2 : Int32) (M : cM) : b_X0_cut_0 F x0 x1 x2 M = run T_X0_cut P_RX0 false 0 (naL na_X0_cut) (caL (ca_X0_cut F)) (lkN th_X0_cut) (lkN sw_X0_cut) krI kxN (spL []) (KL []) 13 0 [some (.int x0), some (.int x1), some (.int x2)] [] M := rfl
theorem ok_X0_cut_0 {X : cCtx} {D : Nat} {r : Int32 × cM} (G : FX X 3 (eI r) cX0_cut RX0 0 D) {F : Nat} (hca : ∀ x ∈ (ca_X0_cut (R' := Int32 × cM) F), 1 ≤ D ∧ ceS X.1 RX0 (D - 1) x.1 x.2) : ∀ x0 x1 x2 M, f_X0_cut_0 F x0 x1 x2 M = some r → WX X 3 (eI r) 0 [some (.int x0), some (.int x1), some (.int x2)] [] M := by
  intro x0 x1 x2 M h
  exact seg_ok G P_RX0_ok T_X0_cut_ok hca (fun _ h => absurd h List.not_mem_nil) sw_X0_cut_ok krI_ok (kxN_ok (f := eI)) (fun _ h => absurd h List.not_mem_nil) ((e_X0_cut_0 F x0 x1 x2 M).symm.trans h)
theorem c_X0_cut {q : cL} (hst : q.1.stackTraces = false) {D : Nat} (hD : 0 ≤ D) (F : Nat) (a0 : Int32) (a1 : Int32) (a2 : Int32) (M : cM) (r : Int32 × cM) (h : f_X0_cut F a0 a1 a2 M = some r) : CTx q yX0_cut (.code yX0_cut cX0_cut 3 (some .int)) D [.int a0, .int a1, .int a2] M (eI r) := by
  exact CTx_of (own := RX0) (rk := 0) hst (by decide +kernel) rfl (rfl) (Nat.le_of_ble_eq_true rfl) (fun X hX G => by subst hX; exact ok_X0_cut_0 G (ca_X0_cut_ok hst hD F) a0 a1 a2 M h)
def n_X0_cut {R' : Type} (f : Int32 → Int32 → Int32 → cM → Option (Int32 × cM)) : cFn R' := fun as M κ κx => match as with
  | [.int a0, .int a1, .int a2] => (f a0 a1 a2 M).bind fun p => κ (some (.int p.1)) p.2
  | _ => none
theorem w_X0_cut : ∀ w ∈ [Cond.static yX0_cut, .initialized yX0_cut.cls, .code yX0_cut cX0_cut 3 (some .int)], w ∈ lw_good := List.forall_mem_cons.mpr ⟨lw_good_of (tb_ok 745 (by decide +kernel)) rfl, List.forall_mem_cons.mpr ⟨lw_good_of (tb_ok 19 (by decide +kernel)) rfl, List.forall_mem_cons.mpr ⟨lw_good_of (tb_ok 746 (by decide +kernel)) rfl, fun _ h => absurd h List.not_mem_nil⟩⟩⟩
theorem n_X0_cut_ok {R' : Type} {q : cL} {own : String} {d k : Nat} {f : Int32 → Int32 → Int32 → cM → Option (Int32 × cM)} (hl : Cond.methodLink own k yX0_cut ∈ lw_good) (hf : ∀ a0 a1 a2 M r, f a0 a1 a2 M = some r → CTx q yX0_cut (.code yX0_cut cX0_cut 3 (some .int)) d [.int a0, .int a1, .int a2] M (eI r)) : ceS q own d (3 * k) (n_X0_cut (R' := R') f) := by
  intro as M κ κx r h
  unfold n_X0_cut at h
  split at h
  · obtain ⟨p, h1, h2⟩ := Option.bind_eq_some_iff.mp h
    exact ⟨eI p, fun _ => h2, fun hne => absurd rfl hne, Or.inl ⟨yX0_cut, cX0_cut, 3, (some .int), k, 3, rfl, hf _ _ _ _ _ h1, List.forall_mem_cons.mpr ⟨hl, w_X0_cut⟩, ⟨by decide +kernel, by decide +kernel, by decide +kernel⟩, rfl, by decide⟩⟩
  · cases h
-- PatchbayScript$Atom.each(III)I
def T_X0_each : List cRow := [(0, .sipush 3600, 3, 0), (3, .iload_n 0, 4, 0), (4, .iconst 3, 5, 0), (5, .imul, 6, 0), (6, .iload_n 1, 7, 0), (7, .iadd, 8, 0), (8, .bipush 6, 10, 0), (10, .imul, 11, 0), (11, .iadd, 12, 0), (12, .iload_n 2, 13, 0), (13, .iadd, 14, 0), (14, .ireturn, 15, 0)]
theorem T_X0_each_ok : T_X0_each.all (rowB cX0_each) = true := by decide +kernel
def th_X0_each : List (Nat × Nat) := []
def sw_X0_each : List (Nat × (List (Int32 × Nat) × Nat)) := []
theorem sw_X0_each_ok : ∀ q ∈ sw_X0_each, swS cX0_each q := fun _ h => absurd h List.not_mem_nil
def na_X0_each : List (Nat × Nat) := []
def ca_X0_each {R' : Type} (F : Nat) : List (Nat × cFn R') := []
theorem ca_X0_each_ok {R' : Type} {q : cL} (hst : q.1.stackTraces = false) {D : Nat} (hD : 0 ≤ D) (F : Nat) : ∀ x ∈ (ca_X0_each (R' := R') F), 1 ≤ D ∧ ceS q RX0 (D - 1) x.1 x.2 := fun _ h => absurd h List.not_mem_nil
theorem e_X0_each_0 (F : Nat) (x0 : Int32) (x1 : Int32) (x2 : Int32) (M : cM) : b_X0_each_0 F x0 x1 x2 M = run T_X0_each P_RX0 false 0 (naL na_X0_each) (caL (ca_X0_each F)) (lkN th_X0_each) (lkN sw_X0_each) krI kxN (spL []) (KL []) 15 0 [some (.int x0), some (.int x1), some (.int x2)] [] M := rfl
theorem ok_X0_each_0 {X : cCtx} {D : Nat} {r : Int32 × cM} (G : FX X 3 (eI r) cX0_each RX0 0 D) {F : Nat} (hca : ∀ x ∈ (ca_X0_each (R' := Int32 × cM) F), 1 ≤ D ∧ ceS X.1 RX0 (D - 1) x.1 x.2) : ∀ x0 x1 x2 M, f_X0_each_0 F x0 x1 x2 M = some r → WX X 3 (eI r) 0 [some (.int x0), some (.int x1), some (.int x2)] [] M := by
  intro x0 x1 x2 M h
  exact seg_ok G P_RX0_ok T_X0_each_ok hca (fun _ h => absurd h List.not_mem_nil) sw_X0_each_ok krI_ok (kxN_ok (f := eI)) (fun _ h => absurd h List.not_mem_nil) ((e_X0_each_0 F x0 x1 x2 M).symm.trans h)
theorem c_X0_each {q : cL} (hst : q.1.stackTraces = false) {D : Nat} (hD : 0 ≤ D) (F : Nat) (a0 : Int32) (a1 : Int32) (a2 : Int32) (M : cM) (r : Int32 × cM) (h : f_X0_each F a0 a1 a2 M = some r) : CTx q yX0_each (.code yX0_each cX0_each 3 (some .int)) D [.int a0, .int a1, .int a2] M (eI r) := by
  exact CTx_of (own := RX0) (rk := 0) hst (by decide +kernel) rfl (rfl) (Nat.le_of_ble_eq_true rfl) (fun X hX G => by subst hX; exact ok_X0_each_0 G (ca_X0_each_ok hst hD F) a0 a1 a2 M h)
def n_X0_each {R' : Type} (f : Int32 → Int32 → Int32 → cM → Option (Int32 × cM)) : cFn R' := fun as M κ κx => match as with
  | [.int a0, .int a1, .int a2] => (f a0 a1 a2 M).bind fun p => κ (some (.int p.1)) p.2
  | _ => none
theorem w_X0_each : ∀ w ∈ [Cond.static yX0_each, .initialized yX0_each.cls, .code yX0_each cX0_each 3 (some .int)], w ∈ lw_good := List.forall_mem_cons.mpr ⟨lw_good_of (tb_ok 748 (by decide +kernel)) rfl, List.forall_mem_cons.mpr ⟨lw_good_of (tb_ok 19 (by decide +kernel)) rfl, List.forall_mem_cons.mpr ⟨lw_good_of (tb_ok 749 (by decide +kernel)) rfl, fun _ h => absurd h List.not_mem_nil⟩⟩⟩
theorem n_X0_each_ok {R' : Type} {q : cL} {own : String} {d k : Nat} {f : Int32 → Int32 → Int32 → cM → Option (Int32 × cM)} (hl : Cond.methodLink own k yX0_each ∈ lw_good) (hf : ∀ a0 a1 a2 M r, f a0 a1 a2 M = some r → CTx q yX0_each (.code yX0_each cX0_each 3 (some .int)) d [.int a0, .int a1, .int a2] M (eI r)) : ceS q own d (3 * k) (n_X0_each (R' := R') f) := by
  intro as M κ κx r h
  unfold n_X0_each at h
  split at h
  · obtain ⟨p, h1, h2⟩ := Option.bind_eq_some_iff.mp h
    exact ⟨eI p, fun _ => h2, fun hne => absurd rfl hne, Or.inl ⟨yX0_each, cX0_each, 3, (some .int), k, 3, rfl, hf _ _ _ _ _ h1, List.forall_mem_cons.mpr ⟨hl, w_X0_each⟩, ⟨by decide +kernel, by decide +kernel, by decide +kernel⟩, rfl, by decide⟩⟩
  · cases h
-- PatchbayScript$Text.at(I)C
def T_X10_at : List cRow := [(0, .iload_n 1, 1, 0), (1, .ifCond .lt 26, 4, 27), (4, .iload_n 1, 5, 0), (5, .aload_n 0, 6, 0), (6, .getfield 21, 9, 0), (9, .if_icmp .ge 18, 12, 27), (12, .iload_n 1, 13, 0), (13, .bipush 20, 15, 0), (15, .if_icmp .ge 12, 18, 27), (18, .aload_n 0, 19, 0), (19, .getfield 11, 22, 0), (22, .iload_n 1, 23, 0), (23, .caload, 24, 0), (24, .goto 4, 27, 28), (27, .iconst 0, 28, 0), (28, .ireturn, 29, 0)]
theorem T_X10_at_ok : T_X10_at.all (rowB cX10_at) = true := by decide +kernel
def th_X10_at : List (Nat × Nat) := []
def sw_X10_at : List (Nat × (List (Int32 × Nat) × Nat)) := []
theorem sw_X10_at_ok : ∀ q ∈ sw_X10_at, swS cX10_at q := fun _ h => absurd h List.not_mem_nil
def na_X10_at : List (Nat × Nat) := []
def ca_X10_at {R' : Type} (F : Nat) : List (Nat × cFn R') := []
theorem ca_X10_at_ok {R' : Type} {q : cL} (hst : q.1.stackTraces = false) {D : Nat} (hD : 0 ≤ D) (F : Nat) : ∀ x ∈ (ca_X10_at (R' := R') F), 1 ≤ D ∧ ceS q RX10 (D - 1) x.1 x.2 := fun _ h => absurd h List.not_mem_nil
theorem e_X10_at_0 (F : Nat) (x0 : Nat) (x1 : Int32) (M : cM) : b_X10_at_0 F x0 x1 M = run T_X10_at P_RX10 false 2 (naL na_X10_at) (caL (ca_X10_at F)) (lkN th_X10_at) (lkN sw_X10_at) krI kxN (spL []) (KL []) 19 0 [some (.ref x0), some (.int x1)] [] M := rfl
theorem ok_X10_at_0 {X : cCtx} {D : Nat} {r : Int32 × cM} (G : FX X 2 (eI r) cX10_at RX10 2 D) {F : Nat} (hca : ∀ x ∈ (ca_X10_at (R' := Int32 × cM) F), 1 ≤ D ∧ ceS X.1 RX10 (D - 1) x.1 x.2) : ∀ x0 x1 M, f_X10_at_0 F x0 x1 M = some r → WX X 2 (eI r) 0 [some (.ref x0), some (.int x1)] [] M := by
  intro x0 x1 M h
  exact seg_ok G P_RX10_ok T_X10_at_ok hca (fun _ h => absurd h List.not_mem_nil) sw_X10_at_ok krI_ok (kxN_ok (f := eI)) (fun _ h => absurd h List.not_mem_nil) ((e_X10_at_0 F x0 x1 M).symm.trans h)
theorem c_X10_at {q : cL} (hst : q.1.stackTraces = false) {D : Nat} (hD : 0 ≤ D) (F : Nat) (a0 : Nat) (a1 : Int32) (M : cM) (r : Int32 × cM) (h : f_X10_at F a0 a1 M = some r) : CTx q yX10_at (.code yX10_at cX10_at 2 (some .char)) D [.ref a0, .int a1] M (eI r) ∧ ∃ fs, M[a0]? = some (.inr (8, fs)) := by
  unfold f_X10_at at h
  split at h
  · next hi => exact ⟨CTx_of (own := RX10) (rk := 2) hst (by decide +kernel) rfl (rfl) (Nat.le_of_ble_eq_true rfl) (fun X hX G => by subst hX; exact ok_X10_at_0 G (ca_X10_at_ok hst hD F) a0 a1 M h), isC_of hi⟩
  · cases h
def n_X10_at {R' : Type} (f : Nat → Int32 → cM → Option (Int32 × cM)) : cFn R' := fun as M κ κx => match as with
  | [.ref a0, .int a1] => (f a0 a1 M).bind fun p => κ (some (.int p.1)) p.2
  | _ => none
theorem w_X10_at : ∀ w ∈ [Cond.instanceMethod yX10_at, .selects yX10_at.cls yX10_at yX10_at, .initialized yX10_at.cls, .code yX10_at cX10_at 2 (some .char)], w ∈ lw_good := List.forall_mem_cons.mpr ⟨lw_good_of (tb_ok 617 (by decide +kernel)) rfl, List.forall_mem_cons.mpr ⟨lw_good_of (tb_ok 618 (by decide +kernel)) rfl, List.forall_mem_cons.mpr ⟨lw_good_of (tb_ok 2 (by decide +kernel)) rfl, List.forall_mem_cons.mpr ⟨lw_good_of (tb_ok 619 (by decide +kernel)) rfl, fun _ h => absurd h List.not_mem_nil⟩⟩⟩⟩
theorem n_X10_at_ok {R' : Type} {q : cL} {own : String} {d k : Nat} {f : Nat → Int32 → cM → Option (Int32 × cM)} (hl : Cond.methodLink own k yX10_at ∈ lw_good) (hf : ∀ a0 a1 M r, f a0 a1 M = some r → CTx q yX10_at (.code yX10_at cX10_at 2 (some .char)) d [.ref a0, .int a1] M (eI r) ∧ ∃ fs, M[a0]? = some (.inr (8, fs))) : ceS q own d (3 * k + 1) (n_X10_at (R' := R') f) := by
  intro as M κ κx r h
  unfold n_X10_at at h
  split at h
  · obtain ⟨p, h1, h2⟩ := Option.bind_eq_some_iff.mp h
    obtain ⟨hc, fs, ha⟩ := hf _ _ _ _ h1
    exact ⟨eI p, fun _ => h2, fun hne => absurd rfl hne, Or.inr (Or.inl ⟨yX10_at, cX10_at, 2, (some .char), k, 1, _, _, 8, TX10, 3, fs, rfl, rfl, hc, ha, rfl, List.forall_mem_cons.mpr ⟨hl, w_X10_at⟩, ⟨rfl, by decide +kernel, by decide +kernel, by decide +kernel⟩, rfl, by decide⟩)⟩
  · cases h
-- PatchbayScript$Atom.withSign(IIC)I
def T_X0_withSign : List cRow := [(0, .iload_n 0, 1, 0), (1, .ldc 27, 3, 0), (3, .ior, 4, 0), (4, .iload_n 2, 5, 0), (5, .bipush 7, 7, 0), (7, .iconst 3, 8, 0), (8, .iload_n 1, 9, 0), (9, .isub, 10, 0), (10, .imul, 11, 0), (11, .ishl, 12, 0), (12, .ior, 13, 0), (13, .ireturn, 14, 0)]
theorem T_X0_withSign_ok : T_X0_withSign.all (rowB cX0_withSign) = true := by decide +kernel
def th_X0_withSign : List (Nat × Nat) := []
def sw_X0_withSign : List (Nat × (List (Int32 × Nat) × Nat)) := []
theorem sw_X0_withSign_ok : ∀ q ∈ sw_X0_withSign, swS cX0_withSign q := fun _ h => absurd h List.not_mem_nil
def na_X0_withSign : List (Nat × Nat) := []
def ca_X0_withSign {R' : Type} (F : Nat) : List (Nat × cFn R') := []
theorem ca_X0_withSign_ok {R' : Type} {q : cL} (hst : q.1.stackTraces = false) {D : Nat} (hD : 0 ≤ D) (F : Nat) : ∀ x ∈ (ca_X0_withSign (R' := R') F), 1 ≤ D ∧ ceS q RX0 (D - 1) x.1 x.2 := fun _ h => absurd h List.not_mem_nil
theorem e_X0_withSign_0 (F : Nat) (x0 : Int32) (x1 : Int32) (x2 : Int32) (M : cM) : b_X0_withSign_0 F x0 x1 x2 M = run T_X0_withSign P_RX0 false 0 (naL na_X0_withSign) (caL (ca_X0_withSign F)) (lkN th_X0_withSign) (lkN sw_X0_withSign) krI kxN (spL []) (KL []) 15 0 [some (.int x0), some (.int x1), some (.int x2)] [] M := rfl
theorem ok_X0_withSign_0 {X : cCtx} {D : Nat} {r : Int32 × cM} (G : FX X 3 (eI r) cX0_withSign RX0 0 D) {F : Nat} (hca : ∀ x ∈ (ca_X0_withSign (R' := Int32 × cM) F), 1 ≤ D ∧ ceS X.1 RX0 (D - 1) x.1 x.2) : ∀ x0 x1 x2 M, f_X0_withSign_0 F x0 x1 x2 M = some r → WX X 3 (eI r) 0 [some (.int x0), some (.int x1), some (.int x2)] [] M := by
  intro x0 x1 x2 M h
  exact seg_ok G P_RX0_ok T_X0_withSign_ok hca (fun _ h => absurd h List.not_mem_nil) sw_X0_withSign_ok krI_ok (kxN_ok (f := eI)) (fun _ h => absurd h List.not_mem_nil) ((e_X0_withSign_0 F x0 x1 x2 M).symm.trans h)
theorem c_X0_withSign {q : cL} (hst : q.1.stackTraces = false) {D : Nat} (hD : 0 ≤ D) (F : Nat) (a0 : Int32) (a1 : Int32) (a2 : Int32) (M : cM) (r : Int32 × cM) (h : f_X0_withSign F a0 a1 a2 M = some r) : CTx q yX0_withSign (.code yX0_withSign cX0_withSign 3 (some .int)) D [.int a0, .int a1, .int a2] M (eI r) := by
  exact CTx_of (own := RX0) (rk := 0) hst (by decide +kernel) rfl (rfl) (Nat.le_of_ble_eq_true rfl) (fun X hX G => by subst hX; exact ok_X0_withSign_0 G (ca_X0_withSign_ok hst hD F) a0 a1 a2 M h)
def n_X0_withSign {R' : Type} (f : Int32 → Int32 → Int32 → cM → Option (Int32 × cM)) : cFn R' := fun as M κ κx => match as with
  | [.int a0, .int a1, .int a2] => (f a0 a1 a2 M).bind fun p => κ (some (.int p.1)) p.2
  | _ => none
theorem w_X0_withSign : ∀ w ∈ [Cond.static yX0_withSign, .initialized yX0_withSign.cls, .code yX0_withSign cX0_withSign 3 (some .int)], w ∈ lw_good := List.forall_mem_cons.mpr ⟨lw_good_of (tb_ok 742 (by decide +kernel)) rfl, List.forall_mem_cons.mpr ⟨lw_good_of (tb_ok 19 (by decide +kernel)) rfl, List.forall_mem_cons.mpr ⟨lw_good_of (tb_ok 743 (by decide +kernel)) rfl, fun _ h => absurd h List.not_mem_nil⟩⟩⟩
theorem n_X0_withSign_ok {R' : Type} {q : cL} {own : String} {d k : Nat} {f : Int32 → Int32 → Int32 → cM → Option (Int32 × cM)} (hl : Cond.methodLink own k yX0_withSign ∈ lw_good) (hf : ∀ a0 a1 a2 M r, f a0 a1 a2 M = some r → CTx q yX0_withSign (.code yX0_withSign cX0_withSign 3 (some .int)) d [.int a0, .int a1, .int a2] M (eI r)) : ceS q own d (3 * k) (n_X0_withSign (R' := R') f) := by
  intro as M κ κx r h
  unfold n_X0_withSign at h
  split at h
  · obtain ⟨p, h1, h2⟩ := Option.bind_eq_some_iff.mp h
    exact ⟨eI p, fun _ => h2, fun hne => absurd rfl hne, Or.inl ⟨yX0_withSign, cX0_withSign, 3, (some .int), k, 3, rfl, hf _ _ _ _ _ h1, List.forall_mem_cons.mpr ⟨hl, w_X0_withSign⟩, ⟨by decide +kernel, by decide +kernel, by decide +kernel⟩, rfl, by decide⟩⟩
  · cases h
-- PatchbayScript$Atom.constOf(LPatchbayScript$Text;)I
def T_X0_constOf : List cRow := [(0, .iconst 0, 1, 0), (1, .istore_n 1, 2, 0), (2, .iconst 0, 3, 0), (3, .istore_n 2, 4, 0), (4, .iload_n 2, 5, 0), (5, .iconst 4, 6, 0), (6, .if_icmp .ge 28, 9, 34), (9, .iload_n 2, 10, 0), (10, .aload_n 0, 11, 0), (11, .getfield 15, 14, 0), (14, .if_icmp .ge 20, 17, 34), (17, .iload_n 1, 18, 0), (18, .iload_n 2, 19, 0), (19, .aload_n 0, 20, 0), (20, .iload_n 2, 21, 0), (21, .invokevirtual 19, 24, 0), (24, .invokestatic 23, 27, 0), (27, .istore_n 1, 28, 0), (28, .iinc 2 1, 31, 0), (31, .goto (-27), 34, 4), (34, .iload_n 1, 35, 0), (35, .ireturn, 36, 0)]
theorem T_X0_constOf_ok : T_X0_constOf.all (rowB cX0_constOf) = true := by decide +kernel
def th_X0_constOf : List (Nat × Nat) := []
def sw_X0_constOf : List (Nat × (List (Int32 × Nat) × Nat)) := []
theorem sw_X0_constOf_ok : ∀ q ∈ sw_X0_constOf, swS cX0_constOf q := fun _ h => absurd h List.not_mem_nil
def na_X0_constOf : List (Nat × Nat) := [(58, 2), (69, 3)]
def ca_X0_constOf {R' : Type} (F : Nat) : List (Nat × cFn R') := [(58, n_X10_at (f_X10_at F)), (69, n_X0_withSign (f_X0_withSign F))]
theorem ca_X0_constOf_ok {R' : Type} {q : cL} (hst : q.1.stackTraces = false) {D : Nat} (hD : 1 ≤ D) (F : Nat) : ∀ x ∈ (ca_X0_constOf (R' := R') F), 1 ≤ D ∧ ceS q RX0 (D - 1) x.1 x.2 := List.forall_mem_cons.mpr ⟨⟨by omega, n_X10_at_ok (k := 19) (lw_good_of (tb_ok 616 (by decide +kernel)) rfl) (fun a0 a1 M r h => c_X10_at hst (by omega) F a0 a1 M r h)⟩, List.forall_mem_cons.mpr ⟨⟨by omega, n_X0_withSign_ok (k := 23) (lw_good_of (tb_ok 741 (by decide +kernel)) rfl) (fun a0 a1 a2 M r h => c_X0_withSign hst (by omega) F a0 a1 a2 M r h)⟩, fun _ h => absurd h List.not_mem_nil⟩⟩
def kd_X0_constOf_4 (g : Nat → Int32 → Int32 → cM → Option (Int32 × cM)) : cKf (Int32 × cM) := fun vs st M => (lR vs 0).bind fun x0 => (lI vs 1).bind fun x1 => (lI vs 2).bind fun x2 => match st with
  | [] => g x0 x1 x2 M
  | _ => none
theorem kf_X0_constOf_4 {X : cCtx} {o : cO} {r : Int32 × cM} {g : Nat → Int32 → Int32 → cM → Option (Int32 × cM)} (hg : ∀ x0 x1 x2 M, g x0 x1 x2 M = some r → WX X 3 o 4 [some (.ref x0), some (.int x1), some (.int x2)] [] M) : ∀ vs st M, kd_X0_constOf_4 g vs st M = some r → WX X 3 o 4 vs st M := by
  intro vs st M h
  unfold kd_X0_constOf_4 at h
  obtain ⟨x0, h0, h⟩ := Option.bind_eq_some_iff.mp h
  obtain ⟨x1, h1, h⟩ := Option.bind_eq_some_iff.mp h
  obtain ⟨x2, h2, h⟩ := Option.bind_eq_some_iff.mp h
  split at h
  · exact WX_weak (hg _ _ _ _ h) rfl ⟨lR_of h0, lI_of h1, lI_of h2, trivial⟩
  · cases h
theorem e_X0_constOf_4 (F : Nat) (t4 : Nat → Int32 → Int32 → cM → Option (Int32 × cM)) (x0 : Nat) (x1 : Int32) (x2 : Int32) (M : cM) : b_X0_constOf_4 F t4 x0 x1 x2 M = run T_X0_constOf P_RX0 false 0 (naL na_X0_constOf) (caL (ca_X0_constOf F)) (lkN th_X0_constOf) (lkN sw_X0_constOf) krI kxN (spL [4]) (KL [(4, kd_X0_constOf_4 t4)]) 25 4 [some (.ref x0), some (.int x1), some (.int x2)] [] M := rfl
theorem ok_X0_constOf_4 {X : cCtx} {D : Nat} {r : Int32 × cM} (G : FX X 3 (eI r) cX0_constOf RX0 0 D) {F : Nat} (hca : ∀ x ∈ (ca_X0_constOf (R' := Int32 × cM) F), 1 ≤ D ∧ ceS X.1 RX0 (D - 1) x.1 x.2) (n : Nat) : ∀ x0 x1 x2 M, f_X0_constOf_4 F n x0 x1 x2 M = some r → WX X 3 (eI r) 4 [some (.ref x0), some (.int x1), some (.int x2)] [] M := by
  induction n with
  | zero => intro x0 x1 x2 M h; cases h
  | succ n ih =>
    intro x0 x1 x2 M h
    exact seg_ok G P_RX0_ok T_X0_constOf_ok hca (fun _ h => absurd h List.not_mem_nil) sw_X0_constOf_ok krI_ok (kxN_ok (f := eI)) (List.forall_mem_cons.mpr ⟨kf_X0_constOf_4 (ih), fun _ h => absurd h List.not_mem_nil⟩) ((e_X0_constOf_4 F (f_X0_constOf_4 F n) x0 x1 x2 M).symm.trans h)
theorem e_X0_constOf_0 (F : Nat) (t4 : Nat → Int32 → Int32 → cM → Option (Int32 × cM)) (x0 : Nat) (M : cM) : b_X0_constOf_0 F t4 x0 M = run T_X0_constOf P_RX0 false 0 (naL na_X0_constOf) (caL (ca_X0_constOf F)) (lkN th_X0_constOf) (lkN sw_X0_constOf) krI kxN (spL [4]) (KL [(4, kd_X0_constOf_4 t4)]) 25 0 [some (.ref x0), none, none] [] M := rfl
theorem ok_X0_constOf_0 {X : cCtx} {D : Nat} {r : Int32 × cM} (G : FX X 3 (eI r) cX0_constOf RX0 0 D) {F : Nat} (hca : ∀ x ∈ (ca_X0_constOf (R' := Int32 × cM) F), 1 ≤ D ∧ ceS X.1 RX0 (D - 1) x.1 x.2) : ∀ x0 M, f_X0_constOf_0 F x0 M = some r → WX X 3 (eI r) 0 [some (.ref x0), none, none] [] M := by
  intro x0 M h
  exact seg_ok G P_RX0_ok T_X0_constOf_ok hca (fun _ h => absurd h List.not_mem_nil) sw_X0_constOf_ok krI_ok (kxN_ok (f := eI)) (List.forall_mem_cons.mpr ⟨kf_X0_constOf_4 (ok_X0_constOf_4 G hca F), fun _ h => absurd h List.not_mem_nil⟩) ((e_X0_constOf_0 F (f_X0_constOf_4 F F) x0 M).symm.trans h)
theorem c_X0_constOf {q : cL} (hst : q.1.stackTraces = false) {D : Nat} (hD : 1 ≤ D) (F : Nat) (a0 : Nat) (M : cM) (r : Int32 × cM) (h : f_X0_constOf F a0 M = some r) : CTx q yX0_constOf (.code yX0_constOf cX0_constOf 3 (some .int)) D [.ref a0] M (eI r) := by
  exact CTx_of (own := RX0) (rk := 0) hst (by decide +kernel) rfl (rfl) (Nat.le_of_ble_eq_true rfl) (fun X hX G => by subst hX; exact ok_X0_constOf_0 G (ca_X0_constOf_ok hst hD F) a0 M h)
def n_X0_constOf {R' : Type} (f : Nat → cM → Option (Int32 × cM)) : cFn R' := fun as M κ κx => match as with
  | [.ref a0] => (f a0 M).bind fun p => κ (some (.int p.1)) p.2
  | _ => none
theorem w_X0_constOf : ∀ w ∈ [Cond.static yX0_constOf, .initialized yX0_constOf.cls, .code yX0_constOf cX0_constOf 3 (some .int)], w ∈ lw_good := List.forall_mem_cons.mpr ⟨lw_good_of (tb_ok 739 (by decide +kernel)) rfl, List.forall_mem_cons.mpr ⟨lw_good_of (tb_ok 19 (by decide +kernel)) rfl, List.forall_mem_cons.mpr ⟨lw_good_of (tb_ok 740 (by decide +kernel)) rfl, fun _ h => absurd h List.not_mem_nil⟩⟩⟩
theorem n_X0_constOf_ok {R' : Type} {q : cL} {own : String} {d k : Nat} {f : Nat → cM → Option (Int32 × cM)} (hl : Cond.methodLink own k yX0_constOf ∈ lw_good) (hf : ∀ a0 M r, f a0 M = some r → CTx q yX0_constOf (.code yX0_constOf cX0_constOf 3 (some .int)) d [.ref a0] M (eI r)) : ceS q own d (3 * k) (n_X0_constOf (R' := R') f) := by
  intro as M κ κx r h
  unfold n_X0_constOf at h
  split at h
  · obtain ⟨p, h1, h2⟩ := Option.bind_eq_some_iff.mp h
    exact ⟨eI p, fun _ => h2, fun hne => absurd rfl hne, Or.inl ⟨yX0_constOf, cX0_constOf, 3, (some .int), k, 1, rfl, hf _ _ _ h1, List.forall_mem_cons.mpr ⟨hl, w_X0_constOf⟩, ⟨by decide +kernel, by decide +kernel, by decide +kernel⟩, rfl, by decide⟩⟩
  · cases h
-- PatchbayScript$Atom.signOf(II)C
def T_X0_signOf : List cRow := [(0, .iload_n 1, 1, 0), (1, .iconst 4, 2, 0), (2, .if_icmp .ge 18, 5, 20), (5, .iload_n 0, 6, 0), (6, .bipush 7, 8, 0), (8, .iconst 3, 9, 0), (9, .iload_n 1, 10, 0), (10, .isub, 11, 0), (11, .imul, 12, 0), (12, .ishr, 13, 0), (13, .bipush 127, 15, 0), (15, .iand, 16, 0), (16, .i2c, 17, 0), (17, .goto 4, 20, 21), (20, .iconst 0, 21, 0), (21, .ireturn, 22, 0)]
theorem T_X0_signOf_ok : T_X0_signOf.all (rowB cX0_signOf) = true := by decide +kernel
def th_X0_signOf : List (Nat × Nat) := []
def sw_X0_signOf : List (Nat × (List (Int32 × Nat) × Nat)) := []
theorem sw_X0_signOf_ok : ∀ q ∈ sw_X0_signOf, swS cX0_signOf q := fun _ h => absurd h List.not_mem_nil
def na_X0_signOf : List (Nat × Nat) := []
def ca_X0_signOf {R' : Type} (F : Nat) : List (Nat × cFn R') := []
theorem ca_X0_signOf_ok {R' : Type} {q : cL} (hst : q.1.stackTraces = false) {D : Nat} (hD : 0 ≤ D) (F : Nat) : ∀ x ∈ (ca_X0_signOf (R' := R') F), 1 ≤ D ∧ ceS q RX0 (D - 1) x.1 x.2 := fun _ h => absurd h List.not_mem_nil
theorem e_X0_signOf_0 (F : Nat) (x0 : Int32) (x1 : Int32) (M : cM) : b_X0_signOf_0 F x0 x1 M = run T_X0_signOf P_RX0 false 2 (naL na_X0_signOf) (caL (ca_X0_signOf F)) (lkN th_X0_signOf) (lkN sw_X0_signOf) krI kxN (spL []) (KL []) 19 0 [some (.int x0), some (.int x1)] [] M := rfl
theorem ok_X0_signOf_0 {X : cCtx} {D : Nat} {r : Int32 × cM} (G : FX X 2 (eI r) cX0_signOf RX0 2 D) {F : Nat} (hca : ∀ x ∈ (ca_X0_signOf (R' := Int32 × cM) F), 1 ≤ D ∧ ceS X.1 RX0 (D - 1) x.1 x.2) : ∀ x0 x1 M, f_X0_signOf_0 F x0 x1 M = some r → WX X 2 (eI r) 0 [some (.int x0), some (.int x1)] [] M := by
  intro x0 x1 M h
  exact seg_ok G P_RX0_ok T_X0_signOf_ok hca (fun _ h => absurd h List.not_mem_nil) sw_X0_signOf_ok krI_ok (kxN_ok (f := eI)) (fun _ h => absurd h List.not_mem_nil) ((e_X0_signOf_0 F x0 x1 M).symm.trans h)
theorem c_X0_signOf {q : cL} (hst : q.1.stackTraces = false) {D : Nat} (hD : 0 ≤ D) (F : Nat) (a0 : Int32) (a1 : Int32) (M : cM) (r : Int32 × cM) (h : f_X0_signOf F a0 a1 M = some r) : CTx q yX0_signOf (.code yX0_signOf cX0_signOf 2 (some .char)) D [.int a0, .int a1] M (eI r) := by
  exact CTx_of (own := RX0) (rk := 2) hst (by decide +kernel) rfl (rfl) (Nat.le_of_ble_eq_true rfl) (fun X hX G => by subst hX; exact ok_X0_signOf_0 G (ca_X0_signOf_ok hst hD F) a0 a1 M h)
def n_X0_signOf {R' : Type} (f : Int32 → Int32 → cM → Option (Int32 × cM)) : cFn R' := fun as M κ κx => match as with
  | [.int a0, .int a1] => (f a0 a1 M).bind fun p => κ (some (.int p.1)) p.2
  | _ => none
theorem w_X0_signOf : ∀ w ∈ [Cond.static yX0_signOf, .initialized yX0_signOf.cls, .code yX0_signOf cX0_signOf 2 (some .char)], w ∈ lw_good := List.forall_mem_cons.mpr ⟨lw_good_of (tb_ok 592 (by decide +kernel)) rfl, List.forall_mem_cons.mpr ⟨lw_good_of (tb_ok 19 (by decide +kernel)) rfl, List.forall_mem_cons.mpr ⟨lw_good_of (tb_ok 593 (by decide +kernel)) rfl, fun _ h => absurd h List.not_mem_nil⟩⟩⟩
theorem n_X0_signOf_ok {R' : Type} {q : cL} {own : String} {d k : Nat} {f : Int32 → Int32 → cM → Option (Int32 × cM)} (hl : Cond.methodLink own k yX0_signOf ∈ lw_good) (hf : ∀ a0 a1 M r, f a0 a1 M = some r → CTx q yX0_signOf (.code yX0_signOf cX0_signOf 2 (some .char)) d [.int a0, .int a1] M (eI r)) : ceS q own d (3 * k) (n_X0_signOf (R' := R') f) := by
  intro as M κ κx r h
  unfold n_X0_signOf at h
  split at h
  · obtain ⟨p, h1, h2⟩ := Option.bind_eq_some_iff.mp h
    exact ⟨eI p, fun _ => h2, fun hne => absurd rfl hne, Or.inl ⟨yX0_signOf, cX0_signOf, 2, (some .char), k, 2, rfl, hf _ _ _ _ h1, List.forall_mem_cons.mpr ⟨hl, w_X0_signOf⟩, ⟨by decide +kernel, by decide +kernel, by decide +kernel⟩, rfl, by decide⟩⟩
  · cases h
-- PatchbayScript$Atom.signsOf(I)I
def T_X0_signsOf : List cRow := [(0, .iconst 0, 1, 0), (1, .istore_n 1, 2, 0), (2, .iconst 0, 3, 0), (3, .istore_n 2, 4, 0), (4, .iload_n 2, 5, 0), (5, .iconst 4, 6, 0), (6, .if_icmp .ge 24, 9, 30), (9, .iload_n 0, 10, 0), (10, .bipush 7, 12, 0), (12, .iload_n 2, 13, 0), (13, .imul, 14, 0), (14, .ishr, 15, 0), (15, .bipush 127, 17, 0), (17, .iand, 18, 0), (18, .ifCond .eq 6, 21, 24), (21, .iinc 1 1, 24, 0), (24, .iinc 2 1, 27, 0), (27, .goto (-23), 30, 4), (30, .iload_n 1, 31, 0), (31, .ireturn, 32, 0)]
theorem T_X0_signsOf_ok : T_X0_signsOf.all (rowB cX0_signsOf) = true := by decide +kernel
def th_X0_signsOf : List (Nat × Nat) := []
def sw_X0_signsOf : List (Nat × (List (Int32 × Nat) × Nat)) := []
theorem sw_X0_signsOf_ok : ∀ q ∈ sw_X0_signsOf, swS cX0_signsOf q := fun _ h => absurd h List.not_mem_nil
def na_X0_signsOf : List (Nat × Nat) := []
def ca_X0_signsOf {R' : Type} (F : Nat) : List (Nat × cFn R') := []
theorem ca_X0_signsOf_ok {R' : Type} {q : cL} (hst : q.1.stackTraces = false) {D : Nat} (hD : 0 ≤ D) (F : Nat) : ∀ x ∈ (ca_X0_signsOf (R' := R') F), 1 ≤ D ∧ ceS q RX0 (D - 1) x.1 x.2 := fun _ h => absurd h List.not_mem_nil
def kd_X0_signsOf_4 (g : Int32 → Int32 → Int32 → cM → Option (Int32 × cM)) : cKf (Int32 × cM) := fun vs st M => (lI vs 0).bind fun x0 => (lI vs 1).bind fun x1 => (lI vs 2).bind fun x2 => match st with
  | [] => g x0 x1 x2 M
  | _ => none
theorem kf_X0_signsOf_4 {X : cCtx} {o : cO} {r : Int32 × cM} {g : Int32 → Int32 → Int32 → cM → Option (Int32 × cM)} (hg : ∀ x0 x1 x2 M, g x0 x1 x2 M = some r → WX X 3 o 4 [some (.int x0), some (.int x1), some (.int x2)] [] M) : ∀ vs st M, kd_X0_signsOf_4 g vs st M = some r → WX X 3 o 4 vs st M := by
  intro vs st M h
  unfold kd_X0_signsOf_4 at h
  obtain ⟨x0, h0, h⟩ := Option.bind_eq_some_iff.mp h
  obtain ⟨x1, h1, h⟩ := Option.bind_eq_some_iff.mp h
  obtain ⟨x2, h2, h⟩ := Option.bind_eq_some_iff.mp h
  split at h
  · exact WX_weak (hg _ _ _ _ h) rfl ⟨lI_of h0, lI_of h1, lI_of h2, trivial⟩
  · cases h
theorem e_X0_signsOf_4 (F : Nat) (t4 : Int32 → Int32 → Int32 → cM → Option (Int32 × cM)) (x0 : Int32) (x1 : Int32) (x2 : Int32) (M : cM) : b_X0_signsOf_4 F t4 x0 x1 x2 M = run T_X0_signsOf P_RX0 false 0 (naL na_X0_signsOf) (caL (ca_X0_signsOf F)) (lkN th_X0_signsOf) (lkN sw_X0_signsOf) krI kxN (spL [4]) (KL [(4, kd_X0_signsOf_4 t4)]) 23 4 [some (.int x0), some (.int x1), some (.int x2)] [] M := rfl
theorem ok_X0_signsOf_4 {X : cCtx} {D : Nat} {r : Int32 × cM} (G : FX X 3 (eI r) cX0_signsOf RX0 0 D) {F : Nat} (hca : ∀ x ∈ (ca_X0_signsOf (R' := Int32 × cM) F), 1 ≤ D ∧ ceS X.1 RX0 (D - 1) x.1 x.2) (n : Nat) : ∀ x0 x1 x2 M, f_X0_signsOf_4 F n x0 x1 x2 M = some r → WX X 3 (eI r) 4 [some (.int x0), some (.int x1), some (.int x2)] [] M := by
  induction n with
  | zero => intro x0 x1 x2 M h; cases h
  | succ n ih =>
    intro x0 x1 x2 M h
    exact seg_ok G P_RX0_ok T_X0_signsOf_ok hca (fun _ h => absurd h List.not_mem_nil) sw_X0_signsOf_ok krI_ok (kxN_ok (f := eI)) (List.forall_mem_cons.mpr ⟨kf_X0_signsOf_4 (ih), fun _ h => absurd h List.not_mem_nil⟩) ((e_X0_signsOf_4 F (f_X0_signsOf_4 F n) x0 x1 x2 M).symm.trans h)
theorem e_X0_signsOf_0 (F : Nat) (t4 : Int32 → Int32 → Int32 → cM → Option (Int32 × cM)) (x0 : Int32) (M : cM) : b_X0_signsOf_0 F t4 x0 M = run T_X0_signsOf P_RX0 false 0 (naL na_X0_signsOf) (caL (ca_X0_signsOf F)) (lkN th_X0_signsOf) (lkN sw_X0_signsOf) krI kxN (spL [4]) (KL [(4, kd_X0_signsOf_4 t4)]) 23 0 [some (.int x0), none, none] [] M := rfl
theorem ok_X0_signsOf_0 {X : cCtx} {D : Nat} {r : Int32 × cM} (G : FX X 3 (eI r) cX0_signsOf RX0 0 D) {F : Nat} (hca : ∀ x ∈ (ca_X0_signsOf (R' := Int32 × cM) F), 1 ≤ D ∧ ceS X.1 RX0 (D - 1) x.1 x.2) : ∀ x0 M, f_X0_signsOf_0 F x0 M = some r → WX X 3 (eI r) 0 [some (.int x0), none, none] [] M := by
  intro x0 M h
  exact seg_ok G P_RX0_ok T_X0_signsOf_ok hca (fun _ h => absurd h List.not_mem_nil) sw_X0_signsOf_ok krI_ok (kxN_ok (f := eI)) (List.forall_mem_cons.mpr ⟨kf_X0_signsOf_4 (ok_X0_signsOf_4 G hca F), fun _ h => absurd h List.not_mem_nil⟩) ((e_X0_signsOf_0 F (f_X0_signsOf_4 F F) x0 M).symm.trans h)
theorem c_X0_signsOf {q : cL} (hst : q.1.stackTraces = false) {D : Nat} (hD : 0 ≤ D) (F : Nat) (a0 : Int32) (M : cM) (r : Int32 × cM) (h : f_X0_signsOf F a0 M = some r) : CTx q yX0_signsOf (.code yX0_signsOf cX0_signsOf 3 (some .int)) D [.int a0] M (eI r) := by
  exact CTx_of (own := RX0) (rk := 0) hst (by decide +kernel) rfl (rfl) (Nat.le_of_ble_eq_true rfl) (fun X hX G => by subst hX; exact ok_X0_signsOf_0 G (ca_X0_signsOf_ok hst hD F) a0 M h)
def n_X0_signsOf {R' : Type} (f : Int32 → cM → Option (Int32 × cM)) : cFn R' := fun as M κ κx => match as with
  | [.int a0] => (f a0 M).bind fun p => κ (some (.int p.1)) p.2
  | _ => none
theorem w_X0_signsOf : ∀ w ∈ [Cond.static yX0_signsOf, .initialized yX0_signsOf.cls, .code yX0_signsOf cX0_signsOf 3 (some .int)], w ∈ lw_good := List.forall_mem_cons.mpr ⟨lw_good_of (tb_ok 589 (by decide +kernel)) rfl, List.forall_mem_cons.mpr ⟨lw_good_of (tb_ok 19 (by decide +kernel)) rfl, List.forall_mem_cons.mpr ⟨lw_good_of (tb_ok 590 (by decide +kernel)) rfl, fun _ h => absurd h List.not_mem_nil⟩⟩⟩
theorem n_X0_signsOf_ok {R' : Type} {q : cL} {own : String} {d k : Nat} {f : Int32 → cM → Option (Int32 × cM)} (hl : Cond.methodLink own k yX0_signsOf ∈ lw_good) (hf : ∀ a0 M r, f a0 M = some r → CTx q yX0_signsOf (.code yX0_signsOf cX0_signsOf 3 (some .int)) d [.int a0] M (eI r)) : ceS q own d (3 * k) (n_X0_signsOf (R' := R') f) := by
  intro as M κ κx r h
  unfold n_X0_signsOf at h
  split at h
  · obtain ⟨p, h1, h2⟩ := Option.bind_eq_some_iff.mp h
    exact ⟨eI p, fun _ => h2, fun hne => absurd rfl hne, Or.inl ⟨yX0_signsOf, cX0_signsOf, 3, (some .int), k, 1, rfl, hf _ _ _ h1, List.forall_mem_cons.mpr ⟨hl, w_X0_signsOf⟩, ⟨by decide +kernel, by decide +kernel, by decide +kernel⟩, rfl, by decide⟩⟩
  · cases h
-- PatchbayScript$Atom.kindOf(I)I
def T_X0_kindOf : List cRow := [(0, .iload_n 0, 1, 0), (1, .ldc 27, 3, 0), (3, .iand, 4, 0), (4, .ifCond .eq 5, 7, 9), (7, .iconst 0, 8, 0), (8, .ireturn, 9, 0), (9, .iload_n 0, 10, 0), (10, .sipush 3600, 13, 0), (13, .if_icmp .ge 7, 16, 20), (16, .iconst 1, 17, 0), (17, .goto 4, 20, 21), (20, .iconst 2, 21, 0), (21, .ireturn, 22, 0)]
theorem T_X0_kindOf_ok : T_X0_kindOf.all (rowB cX0_kindOf) = true := by decide +kernel
def th_X0_kindOf : List (Nat × Nat) := []
def sw_X0_kindOf : List (Nat × (List (Int32 × Nat) × Nat)) := []
theorem sw_X0_kindOf_ok : ∀ q ∈ sw_X0_kindOf, swS cX0_kindOf q := fun _ h => absurd h List.not_mem_nil
def na_X0_kindOf : List (Nat × Nat) := []
def ca_X0_kindOf {R' : Type} (F : Nat) : List (Nat × cFn R') := []
theorem ca_X0_kindOf_ok {R' : Type} {q : cL} (hst : q.1.stackTraces = false) {D : Nat} (hD : 0 ≤ D) (F : Nat) : ∀ x ∈ (ca_X0_kindOf (R' := R') F), 1 ≤ D ∧ ceS q RX0 (D - 1) x.1 x.2 := fun _ h => absurd h List.not_mem_nil
theorem e_X0_kindOf_0 (F : Nat) (x0 : Int32) (M : cM) : b_X0_kindOf_0 F x0 M = run T_X0_kindOf P_RX0 false 0 (naL na_X0_kindOf) (caL (ca_X0_kindOf F)) (lkN th_X0_kindOf) (lkN sw_X0_kindOf) krI kxN (spL []) (KL []) 16 0 [some (.int x0)] [] M := rfl
theorem ok_X0_kindOf_0 {X : cCtx} {D : Nat} {r : Int32 × cM} (G : FX X 1 (eI r) cX0_kindOf RX0 0 D) {F : Nat} (hca : ∀ x ∈ (ca_X0_kindOf (R' := Int32 × cM) F), 1 ≤ D ∧ ceS X.1 RX0 (D - 1) x.1 x.2) : ∀ x0 M, f_X0_kindOf_0 F x0 M = some r → WX X 1 (eI r) 0 [some (.int x0)] [] M := by
  intro x0 M h
  exact seg_ok G P_RX0_ok T_X0_kindOf_ok hca (fun _ h => absurd h List.not_mem_nil) sw_X0_kindOf_ok krI_ok (kxN_ok (f := eI)) (fun _ h => absurd h List.not_mem_nil) ((e_X0_kindOf_0 F x0 M).symm.trans h)
theorem c_X0_kindOf {q : cL} (hst : q.1.stackTraces = false) {D : Nat} (hD : 0 ≤ D) (F : Nat) (a0 : Int32) (M : cM) (r : Int32 × cM) (h : f_X0_kindOf F a0 M = some r) : CTx q yX0_kindOf (.code yX0_kindOf cX0_kindOf 1 (some .int)) D [.int a0] M (eI r) := by
  exact CTx_of (own := RX0) (rk := 0) hst (by decide +kernel) rfl (rfl) (Nat.le_of_ble_eq_true rfl) (fun X hX G => by subst hX; exact ok_X0_kindOf_0 G (ca_X0_kindOf_ok hst hD F) a0 M h)
def n_X0_kindOf {R' : Type} (f : Int32 → cM → Option (Int32 × cM)) : cFn R' := fun as M κ κx => match as with
  | [.int a0] => (f a0 M).bind fun p => κ (some (.int p.1)) p.2
  | _ => none
theorem w_X0_kindOf : ∀ w ∈ [Cond.static yX0_kindOf, .initialized yX0_kindOf.cls, .code yX0_kindOf cX0_kindOf 1 (some .int)], w ∈ lw_good := List.forall_mem_cons.mpr ⟨lw_good_of (tb_ok 582 (by decide +kernel)) rfl, List.forall_mem_cons.mpr ⟨lw_good_of (tb_ok 19 (by decide +kernel)) rfl, List.forall_mem_cons.mpr ⟨lw_good_of (tb_ok 583 (by decide +kernel)) rfl, fun _ h => absurd h List.not_mem_nil⟩⟩⟩
theorem n_X0_kindOf_ok {R' : Type} {q : cL} {own : String} {d k : Nat} {f : Int32 → cM → Option (Int32 × cM)} (hl : Cond.methodLink own k yX0_kindOf ∈ lw_good) (hf : ∀ a0 M r, f a0 M = some r → CTx q yX0_kindOf (.code yX0_kindOf cX0_kindOf 1 (some .int)) d [.int a0] M (eI r)) : ceS q own d (3 * k) (n_X0_kindOf (R' := R') f) := by
  intro as M κ κx r h
  unfold n_X0_kindOf at h
  split at h
  · obtain ⟨p, h1, h2⟩ := Option.bind_eq_some_iff.mp h
    exact ⟨eI p, fun _ => h2, fun hne => absurd rfl hne, Or.inl ⟨yX0_kindOf, cX0_kindOf, 1, (some .int), k, 1, rfl, hf _ _ _ h1, List.forall_mem_cons.mpr ⟨hl, w_X0_kindOf⟩, ⟨by decide +kernel, by decide +kernel, by decide +kernel⟩, rfl, by decide⟩⟩
  · cases h
-- PatchbayScript$Atom.partOfCut(II)I
def T_X0_partOfCut : List cRow := [(0, .iload_n 1, 1, 0), (1, .lookupswitch 41 #[(1, 27), (2, 34)], 2, 0), (28, .iload_n 0, 29, 0), (29, .iconst 4, 30, 0), (30, .idiv, 31, 0), (31, .bipush 30, 33, 0), (33, .idiv, 34, 0), (34, .ireturn, 35, 0), (35, .iload_n 0, 36, 0), (36, .iconst 4, 37, 0), (37, .idiv, 38, 0), (38, .bipush 30, 40, 0), (40, .irem, 41, 0), (41, .ireturn, 42, 0), (42, .iload_n 0, 43, 0), (43, .iconst 4, 44, 0), (44, .irem, 45, 0), (45, .ireturn, 46, 0)]
theorem T_X0_partOfCut_ok : T_X0_partOfCut.all (rowB cX0_partOfCut) = true := by decide +kernel
def th_X0_partOfCut : List (Nat × Nat) := []
def sw_X0_partOfCut : List (Nat × (List (Int32 × Nat) × Nat)) := [(1, ([(1, 28), (2, 35)], 42))]
theorem sw_X0_partOfCut_ok : ∀ q ∈ sw_X0_partOfCut, swS cX0_partOfCut q := List.forall_mem_cons.mpr ⟨⟨.lookupswitch 41 #[(1, 27), (2, 34)], 27, by decide +kernel⟩, fun _ h => absurd h List.not_mem_nil⟩
def na_X0_partOfCut : List (Nat × Nat) := []
def ca_X0_partOfCut {R' : Type} (F : Nat) : List (Nat × cFn R') := []
theorem ca_X0_partOfCut_ok {R' : Type} {q : cL} (hst : q.1.stackTraces = false) {D : Nat} (hD : 0 ≤ D) (F : Nat) : ∀ x ∈ (ca_X0_partOfCut (R' := R') F), 1 ≤ D ∧ ceS q RX0 (D - 1) x.1 x.2 := fun _ h => absurd h List.not_mem_nil
theorem e_X0_partOfCut_0 (F : Nat) (x0 : Int32) (x1 : Int32) (M : cM) : b_X0_partOfCut_0 F x0 x1 M = run T_X0_partOfCut P_RX0 false 0 (naL na_X0_partOfCut) (caL (ca_X0_partOfCut F)) (lkN th_X0_partOfCut) (lkN sw_X0_partOfCut) krI kxN (spL []) (KL []) 21 0 [some (.int x0), some (.int x1)] [] M := rfl
theorem ok_X0_partOfCut_0 {X : cCtx} {D : Nat} {r : Int32 × cM} (G : FX X 2 (eI r) cX0_partOfCut RX0 0 D) {F : Nat} (hca : ∀ x ∈ (ca_X0_partOfCut (R' := Int32 × cM) F), 1 ≤ D ∧ ceS X.1 RX0 (D - 1) x.1 x.2) : ∀ x0 x1 M, f_X0_partOfCut_0 F x0 x1 M = some r → WX X 2 (eI r) 0 [some (.int x0), some (.int x1)] [] M := by
  intro x0 x1 M h
  exact seg_ok G P_RX0_ok T_X0_partOfCut_ok hca (fun _ h => absurd h List.not_mem_nil) sw_X0_partOfCut_ok krI_ok (kxN_ok (f := eI)) (fun _ h => absurd h List.not_mem_nil) ((e_X0_partOfCut_0 F x0 x1 M).symm.trans h)
theorem c_X0_partOfCut {q : cL} (hst : q.1.stackTraces = false) {D : Nat} (hD : 0 ≤ D) (F : Nat) (a0 : Int32) (a1 : Int32) (M : cM) (r : Int32 × cM) (h : f_X0_partOfCut F a0 a1 M = some r) : CTx q yX0_partOfCut (.code yX0_partOfCut cX0_partOfCut 2 (some .int)) D [.int a0, .int a1] M (eI r) := by
  exact CTx_of (own := RX0) (rk := 0) hst (by decide +kernel) rfl (rfl) (Nat.le_of_ble_eq_true rfl) (fun X hX G => by subst hX; exact ok_X0_partOfCut_0 G (ca_X0_partOfCut_ok hst hD F) a0 a1 M h)
def n_X0_partOfCut {R' : Type} (f : Int32 → Int32 → cM → Option (Int32 × cM)) : cFn R' := fun as M κ κx => match as with
  | [.int a0, .int a1] => (f a0 a1 M).bind fun p => κ (some (.int p.1)) p.2
  | _ => none
theorem w_X0_partOfCut : ∀ w ∈ [Cond.static yX0_partOfCut, .initialized yX0_partOfCut.cls, .code yX0_partOfCut cX0_partOfCut 2 (some .int)], w ∈ lw_good := List.forall_mem_cons.mpr ⟨lw_good_of (tb_ok 603 (by decide +kernel)) rfl, List.forall_mem_cons.mpr ⟨lw_good_of (tb_ok 19 (by decide +kernel)) rfl, List.forall_mem_cons.mpr ⟨lw_good_of (tb_ok 604 (by decide +kernel)) rfl, fun _ h => absurd h List.not_mem_nil⟩⟩⟩
theorem n_X0_partOfCut_ok {R' : Type} {q : cL} {own : String} {d k : Nat} {f : Int32 → Int32 → cM → Option (Int32 × cM)} (hl : Cond.methodLink own k yX0_partOfCut ∈ lw_good) (hf : ∀ a0 a1 M r, f a0 a1 M = some r → CTx q yX0_partOfCut (.code yX0_partOfCut cX0_partOfCut 2 (some .int)) d [.int a0, .int a1] M (eI r)) : ceS q own d (3 * k) (n_X0_partOfCut (R' := R') f) := by
  intro as M κ κx r h
  unfold n_X0_partOfCut at h
  split at h
  · obtain ⟨p, h1, h2⟩ := Option.bind_eq_some_iff.mp h
    exact ⟨eI p, fun _ => h2, fun hne => absurd rfl hne, Or.inl ⟨yX0_partOfCut, cX0_partOfCut, 2, (some .int), k, 2, rfl, hf _ _ _ _ h1, List.forall_mem_cons.mpr ⟨hl, w_X0_partOfCut⟩, ⟨by decide +kernel, by decide +kernel, by decide +kernel⟩, rfl, by decide⟩⟩
  · cases h
-- PatchbayScript$Atom.partOfEach(II)I
def T_X0_partOfEach : List cRow := [(0, .iload_n 1, 1, 0), (1, .lookupswitch 41 #[(1, 27), (2, 34)], 2, 0), (28, .iload_n 0, 29, 0), (29, .bipush 6, 31, 0), (31, .idiv, 32, 0), (32, .iconst 3, 33, 0), (33, .idiv, 34, 0), (34, .ireturn, 35, 0), (35, .iload_n 0, 36, 0), (36, .bipush 6, 38, 0), (38, .idiv, 39, 0), (39, .iconst 3, 40, 0), (40, .irem, 41, 0), (41, .ireturn, 42, 0), (42, .iload_n 0, 43, 0), (43, .bipush 6, 45, 0), (45, .irem, 46, 0), (46, .ireturn, 47, 0)]
theorem T_X0_partOfEach_ok : T_X0_partOfEach.all (rowB cX0_partOfEach) = true := by decide +kernel
def th_X0_partOfEach : List (Nat × Nat) := []
def sw_X0_partOfEach : List (Nat × (List (Int32 × Nat) × Nat)) := [(1, ([(1, 28), (2, 35)], 42))]
theorem sw_X0_partOfEach_ok : ∀ q ∈ sw_X0_partOfEach, swS cX0_partOfEach q := List.forall_mem_cons.mpr ⟨⟨.lookupswitch 41 #[(1, 27), (2, 34)], 27, by decide +kernel⟩, fun _ h => absurd h List.not_mem_nil⟩
def na_X0_partOfEach : List (Nat × Nat) := []
def ca_X0_partOfEach {R' : Type} (F : Nat) : List (Nat × cFn R') := []
theorem ca_X0_partOfEach_ok {R' : Type} {q : cL} (hst : q.1.stackTraces = false) {D : Nat} (hD : 0 ≤ D) (F : Nat) : ∀ x ∈ (ca_X0_partOfEach (R' := R') F), 1 ≤ D ∧ ceS q RX0 (D - 1) x.1 x.2 := fun _ h => absurd h List.not_mem_nil
theorem e_X0_partOfEach_0 (F : Nat) (x0 : Int32) (x1 : Int32) (M : cM) : b_X0_partOfEach_0 F x0 x1 M = run T_X0_partOfEach P_RX0 false 0 (naL na_X0_partOfEach) (caL (ca_X0_partOfEach F)) (lkN th_X0_partOfEach) (lkN sw_X0_partOfEach) krI kxN (spL []) (KL []) 21 0 [some (.int x0), some (.int x1)] [] M := rfl
theorem ok_X0_partOfEach_0 {X : cCtx} {D : Nat} {r : Int32 × cM} (G : FX X 2 (eI r) cX0_partOfEach RX0 0 D) {F : Nat} (hca : ∀ x ∈ (ca_X0_partOfEach (R' := Int32 × cM) F), 1 ≤ D ∧ ceS X.1 RX0 (D - 1) x.1 x.2) : ∀ x0 x1 M, f_X0_partOfEach_0 F x0 x1 M = some r → WX X 2 (eI r) 0 [some (.int x0), some (.int x1)] [] M := by
  intro x0 x1 M h
  exact seg_ok G P_RX0_ok T_X0_partOfEach_ok hca (fun _ h => absurd h List.not_mem_nil) sw_X0_partOfEach_ok krI_ok (kxN_ok (f := eI)) (fun _ h => absurd h List.not_mem_nil) ((e_X0_partOfEach_0 F x0 x1 M).symm.trans h)
theorem c_X0_partOfEach {q : cL} (hst : q.1.stackTraces = false) {D : Nat} (hD : 0 ≤ D) (F : Nat) (a0 : Int32) (a1 : Int32) (M : cM) (r : Int32 × cM) (h : f_X0_partOfEach F a0 a1 M = some r) : CTx q yX0_partOfEach (.code yX0_partOfEach cX0_partOfEach 2 (some .int)) D [.int a0, .int a1] M (eI r) := by
  exact CTx_of (own := RX0) (rk := 0) hst (by decide +kernel) rfl (rfl) (Nat.le_of_ble_eq_true rfl) (fun X hX G => by subst hX; exact ok_X0_partOfEach_0 G (ca_X0_partOfEach_ok hst hD F) a0 a1 M h)
def n_X0_partOfEach {R' : Type} (f : Int32 → Int32 → cM → Option (Int32 × cM)) : cFn R' := fun as M κ κx => match as with
  | [.int a0, .int a1] => (f a0 a1 M).bind fun p => κ (some (.int p.1)) p.2
  | _ => none
theorem w_X0_partOfEach : ∀ w ∈ [Cond.static yX0_partOfEach, .initialized yX0_partOfEach.cls, .code yX0_partOfEach cX0_partOfEach 2 (some .int)], w ∈ lw_good := List.forall_mem_cons.mpr ⟨lw_good_of (tb_ok 606 (by decide +kernel)) rfl, List.forall_mem_cons.mpr ⟨lw_good_of (tb_ok 19 (by decide +kernel)) rfl, List.forall_mem_cons.mpr ⟨lw_good_of (tb_ok 607 (by decide +kernel)) rfl, fun _ h => absurd h List.not_mem_nil⟩⟩⟩
theorem n_X0_partOfEach_ok {R' : Type} {q : cL} {own : String} {d k : Nat} {f : Int32 → Int32 → cM → Option (Int32 × cM)} (hl : Cond.methodLink own k yX0_partOfEach ∈ lw_good) (hf : ∀ a0 a1 M r, f a0 a1 M = some r → CTx q yX0_partOfEach (.code yX0_partOfEach cX0_partOfEach 2 (some .int)) d [.int a0, .int a1] M (eI r)) : ceS q own d (3 * k) (n_X0_partOfEach (R' := R') f) := by
  intro as M κ κx r h
  unfold n_X0_partOfEach at h
  split at h
  · obtain ⟨p, h1, h2⟩ := Option.bind_eq_some_iff.mp h
    exact ⟨eI p, fun _ => h2, fun hne => absurd rfl hne, Or.inl ⟨yX0_partOfEach, cX0_partOfEach, 2, (some .int), k, 2, rfl, hf _ _ _ _ h1, List.forall_mem_cons.mpr ⟨hl, w_X0_partOfEach⟩, ⟨by decide +kernel, by decide +kernel, by decide +kernel⟩, rfl, by decide⟩⟩
  · cases h
-- PatchbayScript$Atom.partOf(II)I
def T_X0_partOf : List cRow := [(0, .iload_n 0, 1, 0), (1, .invokestatic 28, 4, 0), (4, .iconst 1, 5, 0), (5, .if_icmp .ne 11, 8, 16), (8, .iload_n 0, 9, 0), (9, .iload_n 1, 10, 0), (10, .invokestatic 32, 13, 0), (13, .goto 12, 16, 25), (16, .iload_n 0, 17, 0), (17, .sipush 3600, 20, 0), (20, .isub, 21, 0), (21, .iload_n 1, 22, 0), (22, .invokestatic 36, 25, 0), (25, .ireturn, 26, 0)]
theorem T_X0_partOf_ok : T_X0_partOf.all (rowB cX0_partOf) = true := by decide +kernel
def th_X0_partOf : List (Nat × Nat) := []
def sw_X0_partOf : List (Nat × (List (Int32 × Nat) × Nat)) := []
theorem sw_X0_partOf_ok : ∀ q ∈ sw_X0_partOf, swS cX0_partOf q := fun _ h => absurd h List.not_mem_nil
def na_X0_partOf : List (Nat × Nat) := [(84, 1), (96, 2), (108, 2)]
def ca_X0_partOf {R' : Type} (F : Nat) : List (Nat × cFn R') := [(84, n_X0_kindOf (f_X0_kindOf F)), (96, n_X0_partOfCut (f_X0_partOfCut F)), (108, n_X0_partOfEach (f_X0_partOfEach F))]
theorem ca_X0_partOf_ok {R' : Type} {q : cL} (hst : q.1.stackTraces = false) {D : Nat} (hD : 1 ≤ D) (F : Nat) : ∀ x ∈ (ca_X0_partOf (R' := R') F), 1 ≤ D ∧ ceS q RX0 (D - 1) x.1 x.2 := List.forall_mem_cons.mpr ⟨⟨by omega, n_X0_kindOf_ok (k := 28) (lw_good_of (tb_ok 601 (by decide +kernel)) rfl) (fun a0 M r h => c_X0_kindOf hst (by omega) F a0 M r h)⟩, List.forall_mem_cons.mpr ⟨⟨by omega, n_X0_partOfCut_ok (k := 32) (lw_good_of (tb_ok 602 (by decide +kernel)) rfl) (fun a0 a1 M r h => c_X0_partOfCut hst (by omega) F a0 a1 M r h)⟩, List.forall_mem_cons.mpr ⟨⟨by omega, n_X0_partOfEach_ok (k := 36) (lw_good_of (tb_ok 605 (by decide +kernel)) rfl) (fun a0 a1 M r h => c_X0_partOfEach hst (by omega) F a0 a1 M r h)⟩, fun _ h => absurd h List.not_mem_nil⟩⟩⟩
theorem e_X0_partOf_0 (F : Nat) (x0 : Int32) (x1 : Int32) (M : cM) : b_X0_partOf_0 F x0 x1 M = run T_X0_partOf P_RX0 false 0 (naL na_X0_partOf) (caL (ca_X0_partOf F)) (lkN th_X0_partOf) (lkN sw_X0_partOf) krI kxN (spL []) (KL []) 17 0 [some (.int x0), some (.int x1)] [] M := rfl
theorem ok_X0_partOf_0 {X : cCtx} {D : Nat} {r : Int32 × cM} (G : FX X 2 (eI r) cX0_partOf RX0 0 D) {F : Nat} (hca : ∀ x ∈ (ca_X0_partOf (R' := Int32 × cM) F), 1 ≤ D ∧ ceS X.1 RX0 (D - 1) x.1 x.2) : ∀ x0 x1 M, f_X0_partOf_0 F x0 x1 M = some r → WX X 2 (eI r) 0 [some (.int x0), some (.int x1)] [] M := by
  intro x0 x1 M h
  exact seg_ok G P_RX0_ok T_X0_partOf_ok hca (fun _ h => absurd h List.not_mem_nil) sw_X0_partOf_ok krI_ok (kxN_ok (f := eI)) (fun _ h => absurd h List.not_mem_nil) ((e_X0_partOf_0 F x0 x1 M).symm.trans h)
theorem c_X0_partOf {q : cL} (hst : q.1.stackTraces = false) {D : Nat} (hD : 1 ≤ D) (F : Nat) (a0 : Int32) (a1 : Int32) (M : cM) (r : Int32 × cM) (h : f_X0_partOf F a0 a1 M = some r) : CTx q yX0_partOf (.code yX0_partOf cX0_partOf 2 (some .int)) D [.int a0, .int a1] M (eI r) := by
  exact CTx_of (own := RX0) (rk := 0) hst (by decide +kernel) rfl (rfl) (Nat.le_of_ble_eq_true rfl) (fun X hX G => by subst hX; exact ok_X0_partOf_0 G (ca_X0_partOf_ok hst hD F) a0 a1 M h)
def n_X0_partOf {R' : Type} (f : Int32 → Int32 → cM → Option (Int32 × cM)) : cFn R' := fun as M κ κx => match as with
  | [.int a0, .int a1] => (f a0 a1 M).bind fun p => κ (some (.int p.1)) p.2
  | _ => none
theorem w_X0_partOf : ∀ w ∈ [Cond.static yX0_partOf, .initialized yX0_partOf.cls, .code yX0_partOf cX0_partOf 2 (some .int)], w ∈ lw_good := List.forall_mem_cons.mpr ⟨lw_good_of (tb_ok 599 (by decide +kernel)) rfl, List.forall_mem_cons.mpr ⟨lw_good_of (tb_ok 19 (by decide +kernel)) rfl, List.forall_mem_cons.mpr ⟨lw_good_of (tb_ok 600 (by decide +kernel)) rfl, fun _ h => absurd h List.not_mem_nil⟩⟩⟩
theorem n_X0_partOf_ok {R' : Type} {q : cL} {own : String} {d k : Nat} {f : Int32 → Int32 → cM → Option (Int32 × cM)} (hl : Cond.methodLink own k yX0_partOf ∈ lw_good) (hf : ∀ a0 a1 M r, f a0 a1 M = some r → CTx q yX0_partOf (.code yX0_partOf cX0_partOf 2 (some .int)) d [.int a0, .int a1] M (eI r)) : ceS q own d (3 * k) (n_X0_partOf (R' := R') f) := by
  intro as M κ κx r h
  unfold n_X0_partOf at h
  split at h
  · obtain ⟨p, h1, h2⟩ := Option.bind_eq_some_iff.mp h
    exact ⟨eI p, fun _ => h2, fun hne => absurd rfl hne, Or.inl ⟨yX0_partOf, cX0_partOf, 2, (some .int), k, 2, rfl, hf _ _ _ _ h1, List.forall_mem_cons.mpr ⟨hl, w_X0_partOf⟩, ⟨by decide +kernel, by decide +kernel, by decide +kernel⟩, rfl, by decide⟩⟩
  · cases h
-- PatchbayScript$Atom.weightOfSpot(I)I
def T_X0_weightOfSpot : List cRow := [(0, .iload_n 0, 1, 0), (1, .bipush 6, 3, 0), (3, .if_icmp .ge 9, 6, 12), (6, .iconst 3, 7, 0), (7, .iload_n 0, 8, 0), (8, .iconst 3, 9, 0), (9, .irem, 10, 0), (10, .iadd, 11, 0), (11, .ireturn, 12, 0), (12, .iload_n 0, 13, 0), (13, .iconst 3, 14, 0), (14, .irem, 15, 0), (15, .iconst 1, 16, 0), (16, .if_icmp .ne 7, 19, 23), (19, .iconst 2, 20, 0), (20, .goto 4, 23, 24), (23, .iconst 1, 24, 0), (24, .ireturn, 25, 0)]
theorem T_X0_weightOfSpot_ok : T_X0_weightOfSpot.all (rowB cX0_weightOfSpot) = true := by decide +kernel
def th_X0_weightOfSpot : List (Nat × Nat) := []
def sw_X0_weightOfSpot : List (Nat × (List (Int32 × Nat) × Nat)) := []
theorem sw_X0_weightOfSpot_ok : ∀ q ∈ sw_X0_weightOfSpot, swS cX0_weightOfSpot q := fun _ h => absurd h List.not_mem_nil
def na_X0_weightOfSpot : List (Nat × Nat) := []
def ca_X0_weightOfSpot {R' : Type} (F : Nat) : List (Nat × cFn R') := []
theorem ca_X0_weightOfSpot_ok {R' : Type} {q : cL} (hst : q.1.stackTraces = false) {D : Nat} (hD : 0 ≤ D) (F : Nat) : ∀ x ∈ (ca_X0_weightOfSpot (R' := R') F), 1 ≤ D ∧ ceS q RX0 (D - 1) x.1 x.2 := fun _ h => absurd h List.not_mem_nil
theorem e_X0_weightOfSpot_0 (F : Nat) (x0 : Int32) (M : cM) : b_X0_weightOfSpot_0 F x0 M = run T_X0_weightOfSpot P_RX0 false 0 (naL na_X0_weightOfSpot) (caL (ca_X0_weightOfSpot F)) (lkN th_X0_weightOfSpot) (lkN sw_X0_weightOfSpot) krI kxN (spL []) (KL []) 21 0 [some (.int x0)] [] M := rfl
theorem ok_X0_weightOfSpot_0 {X : cCtx} {D : Nat} {r : Int32 × cM} (G : FX X 1 (eI r) cX0_weightOfSpot RX0 0 D) {F : Nat} (hca : ∀ x ∈ (ca_X0_weightOfSpot (R' := Int32 × cM) F), 1 ≤ D ∧ ceS X.1 RX0 (D - 1) x.1 x.2) : ∀ x0 M, f_X0_weightOfSpot_0 F x0 M = some r → WX X 1 (eI r) 0 [some (.int x0)] [] M := by
  intro x0 M h
  exact seg_ok G P_RX0_ok T_X0_weightOfSpot_ok hca (fun _ h => absurd h List.not_mem_nil) sw_X0_weightOfSpot_ok krI_ok (kxN_ok (f := eI)) (fun _ h => absurd h List.not_mem_nil) ((e_X0_weightOfSpot_0 F x0 M).symm.trans h)
theorem c_X0_weightOfSpot {q : cL} (hst : q.1.stackTraces = false) {D : Nat} (hD : 0 ≤ D) (F : Nat) (a0 : Int32) (M : cM) (r : Int32 × cM) (h : f_X0_weightOfSpot F a0 M = some r) : CTx q yX0_weightOfSpot (.code yX0_weightOfSpot cX0_weightOfSpot 1 (some .int)) D [.int a0] M (eI r) := by
  exact CTx_of (own := RX0) (rk := 0) hst (by decide +kernel) rfl (rfl) (Nat.le_of_ble_eq_true rfl) (fun X hX G => by subst hX; exact ok_X0_weightOfSpot_0 G (ca_X0_weightOfSpot_ok hst hD F) a0 M h)
def n_X0_weightOfSpot {R' : Type} (f : Int32 → cM → Option (Int32 × cM)) : cFn R' := fun as M κ κx => match as with
  | [.int a0] => (f a0 M).bind fun p => κ (some (.int p.1)) p.2
  | _ => none
theorem w_X0_weightOfSpot : ∀ w ∈ [Cond.static yX0_weightOfSpot, .initialized yX0_weightOfSpot.cls, .code yX0_weightOfSpot cX0_weightOfSpot 1 (some .int)], w ∈ lw_good := List.forall_mem_cons.mpr ⟨lw_good_of (tb_ok 830 (by decide +kernel)) rfl, List.forall_mem_cons.mpr ⟨lw_good_of (tb_ok 19 (by decide +kernel)) rfl, List.forall_mem_cons.mpr ⟨lw_good_of (tb_ok 831 (by decide +kernel)) rfl, fun _ h => absurd h List.not_mem_nil⟩⟩⟩
theorem n_X0_weightOfSpot_ok {R' : Type} {q : cL} {own : String} {d k : Nat} {f : Int32 → cM → Option (Int32 × cM)} (hl : Cond.methodLink own k yX0_weightOfSpot ∈ lw_good) (hf : ∀ a0 M r, f a0 M = some r → CTx q yX0_weightOfSpot (.code yX0_weightOfSpot cX0_weightOfSpot 1 (some .int)) d [.int a0] M (eI r)) : ceS q own d (3 * k) (n_X0_weightOfSpot (R' := R') f) := by
  intro as M κ κx r h
  unfold n_X0_weightOfSpot at h
  split at h
  · obtain ⟨p, h1, h2⟩ := Option.bind_eq_some_iff.mp h
    exact ⟨eI p, fun _ => h2, fun hne => absurd rfl hne, Or.inl ⟨yX0_weightOfSpot, cX0_weightOfSpot, 1, (some .int), k, 1, rfl, hf _ _ _ h1, List.forall_mem_cons.mpr ⟨hl, w_X0_weightOfSpot⟩, ⟨by decide +kernel, by decide +kernel, by decide +kernel⟩, rfl, by decide⟩⟩
  · cases h
-- PatchbayScript$Atom.weightOfConst(I)I
def T_X0_weightOfConst : List cRow := [(0, .iconst 4, 1, 0), (1, .iconst 3, 2, 0), (2, .iload_n 0, 3, 0), (3, .imul, 4, 0), (4, .iadd, 5, 0), (5, .ireturn, 6, 0)]
theorem T_X0_weightOfConst_ok : T_X0_weightOfConst.all (rowB cX0_weightOfConst) = true := by decide +kernel
def th_X0_weightOfConst : List (Nat × Nat) := []
def sw_X0_weightOfConst : List (Nat × (List (Int32 × Nat) × Nat)) := []
theorem sw_X0_weightOfConst_ok : ∀ q ∈ sw_X0_weightOfConst, swS cX0_weightOfConst q := fun _ h => absurd h List.not_mem_nil
def na_X0_weightOfConst : List (Nat × Nat) := []
def ca_X0_weightOfConst {R' : Type} (F : Nat) : List (Nat × cFn R') := []
theorem ca_X0_weightOfConst_ok {R' : Type} {q : cL} (hst : q.1.stackTraces = false) {D : Nat} (hD : 0 ≤ D) (F : Nat) : ∀ x ∈ (ca_X0_weightOfConst (R' := R') F), 1 ≤ D ∧ ceS q RX0 (D - 1) x.1 x.2 := fun _ h => absurd h List.not_mem_nil
theorem e_X0_weightOfConst_0 (F : Nat) (x0 : Int32) (M : cM) : b_X0_weightOfConst_0 F x0 M = run T_X0_weightOfConst P_RX0 false 0 (naL na_X0_weightOfConst) (caL (ca_X0_weightOfConst F)) (lkN th_X0_weightOfConst) (lkN sw_X0_weightOfConst) krI kxN (spL []) (KL []) 9 0 [some (.int x0)] [] M := rfl
theorem ok_X0_weightOfConst_0 {X : cCtx} {D : Nat} {r : Int32 × cM} (G : FX X 1 (eI r) cX0_weightOfConst RX0 0 D) {F : Nat} (hca : ∀ x ∈ (ca_X0_weightOfConst (R' := Int32 × cM) F), 1 ≤ D ∧ ceS X.1 RX0 (D - 1) x.1 x.2) : ∀ x0 M, f_X0_weightOfConst_0 F x0 M = some r → WX X 1 (eI r) 0 [some (.int x0)] [] M := by
  intro x0 M h
  exact seg_ok G P_RX0_ok T_X0_weightOfConst_ok hca (fun _ h => absurd h List.not_mem_nil) sw_X0_weightOfConst_ok krI_ok (kxN_ok (f := eI)) (fun _ h => absurd h List.not_mem_nil) ((e_X0_weightOfConst_0 F x0 M).symm.trans h)
theorem c_X0_weightOfConst {q : cL} (hst : q.1.stackTraces = false) {D : Nat} (hD : 0 ≤ D) (F : Nat) (a0 : Int32) (M : cM) (r : Int32 × cM) (h : f_X0_weightOfConst F a0 M = some r) : CTx q yX0_weightOfConst (.code yX0_weightOfConst cX0_weightOfConst 1 (some .int)) D [.int a0] M (eI r) := by
  exact CTx_of (own := RX0) (rk := 0) hst (by decide +kernel) rfl (rfl) (Nat.le_of_ble_eq_true rfl) (fun X hX G => by subst hX; exact ok_X0_weightOfConst_0 G (ca_X0_weightOfConst_ok hst hD F) a0 M h)
def n_X0_weightOfConst {R' : Type} (f : Int32 → cM → Option (Int32 × cM)) : cFn R' := fun as M κ κx => match as with
  | [.int a0] => (f a0 M).bind fun p => κ (some (.int p.1)) p.2
  | _ => none
theorem w_X0_weightOfConst : ∀ w ∈ [Cond.static yX0_weightOfConst, .initialized yX0_weightOfConst.cls, .code yX0_weightOfConst cX0_weightOfConst 1 (some .int)], w ∈ lw_good := List.forall_mem_cons.mpr ⟨lw_good_of (tb_ok 845 (by decide +kernel)) rfl, List.forall_mem_cons.mpr ⟨lw_good_of (tb_ok 19 (by decide +kernel)) rfl, List.forall_mem_cons.mpr ⟨lw_good_of (tb_ok 846 (by decide +kernel)) rfl, fun _ h => absurd h List.not_mem_nil⟩⟩⟩
theorem n_X0_weightOfConst_ok {R' : Type} {q : cL} {own : String} {d k : Nat} {f : Int32 → cM → Option (Int32 × cM)} (hl : Cond.methodLink own k yX0_weightOfConst ∈ lw_good) (hf : ∀ a0 M r, f a0 M = some r → CTx q yX0_weightOfConst (.code yX0_weightOfConst cX0_weightOfConst 1 (some .int)) d [.int a0] M (eI r)) : ceS q own d (3 * k) (n_X0_weightOfConst (R' := R') f) := by
  intro as M κ κx r h
  unfold n_X0_weightOfConst at h
  split at h
  · obtain ⟨p, h1, h2⟩ := Option.bind_eq_some_iff.mp h
    exact ⟨eI p, fun _ => h2, fun hne => absurd rfl hne, Or.inl ⟨yX0_weightOfConst, cX0_weightOfConst, 1, (some .int), k, 1, rfl, hf _ _ _ h1, List.forall_mem_cons.mpr ⟨hl, w_X0_weightOfConst⟩, ⟨by decide +kernel, by decide +kernel, by decide +kernel⟩, rfl, by decide⟩⟩
  · cases h
-- PatchbayScript$Atom.weightOfCut(III)I
def T_X0_weightOfCut : List cRow := [(0, .iconst 2, 1, 0), (1, .iload_n 0, 2, 0), (2, .invokestatic 39, 5, 0), (5, .iadd, 6, 0), (6, .iload_n 1, 7, 0), (7, .invokestatic 39, 10, 0), (10, .iadd, 11, 0), (11, .iload_n 2, 12, 0), (12, .ifCond .ne 7, 15, 19), (15, .iconst 0, 16, 0), (16, .goto 4, 19, 20), (19, .iconst 2, 20, 0), (20, .iadd, 21, 0), (21, .ireturn, 22, 0)]
theorem T_X0_weightOfCut_ok : T_X0_weightOfCut.all (rowB cX0_weightOfCut) = true := by decide +kernel
def th_X0_weightOfCut : List (Nat × Nat) := []
def sw_X0_weightOfCut : List (Nat × (List (Int32 × Nat) × Nat)) := []
theorem sw_X0_weightOfCut_ok : ∀ q ∈ sw_X0_weightOfCut, swS cX0_weightOfCut q := fun _ h => absurd h List.not_mem_nil
def na_X0_weightOfCut : List (Nat × Nat) := [(117, 1)]
def ca_X0_weightOfCut {R' : Type} (F : Nat) : List (Nat × cFn R') := [(117, n_X0_weightOfSpot (f_X0_weightOfSpot F))]
theorem ca_X0_weightOfCut_ok {R' : Type} {q : cL} (hst : q.1.stackTraces = false) {D : Nat} (hD : 1 ≤ D) (F : Nat) : ∀ x ∈ (ca_X0_weightOfCut (R' := R') F), 1 ≤ D ∧ ceS q RX0 (D - 1) x.1 x.2 := List.forall_mem_cons.mpr ⟨⟨by omega, n_X0_weightOfSpot_ok (k := 39) (lw_good_of (tb_ok 829 (by decide +kernel)) rfl) (fun a0 M r h => c_X0_weightOfSpot hst (by omega) F a0 M r h)⟩, fun _ h => absurd h List.not_mem_nil⟩
theorem e_X0_weightOfCut_0 (F : Nat) (x0 : Int32) (x1 : Int32) (x2 : Int32) (M : cM) : b_X0_weightOfCut_0 F x0 x1 x2 M = run T_X0_weightOfCut P_RX0 false 0 (naL na_X0_weightOfCut) (caL (ca_X0_weightOfCut F)) (lkN th_X0_weightOfCut) (lkN sw_X0_weightOfCut) krI kxN (spL []) (KL []) 17 0 [some (.int x0), some (.int x1), some (.int x2)] [] M := rfl
theorem ok_X0_weightOfCut_0 {X : cCtx} {D : Nat} {r : Int32 × cM} (G : FX X 3 (eI r) cX0_weightOfCut RX0 0 D) {F : Nat} (hca : ∀ x ∈ (ca_X0_weightOfCut (R' := Int32 × cM) F), 1 ≤ D ∧ ceS X.1 RX0 (D - 1) x.1 x.2) : ∀ x0 x1 x2 M, f_X0_weightOfCut_0 F x0 x1 x2 M = some r → WX X 3 (eI r) 0 [some (.int x0), some (.int x1), some (.int x2)] [] M := by
  intro x0 x1 x2 M h
  exact seg_ok G P_RX0_ok T_X0_weightOfCut_ok hca (fun _ h => absurd h List.not_mem_nil) sw_X0_weightOfCut_ok krI_ok (kxN_ok (f := eI)) (fun _ h => absurd h List.not_mem_nil) ((e_X0_weightOfCut_0 F x0 x1 x2 M).symm.trans h)
theorem c_X0_weightOfCut {q : cL} (hst : q.1.stackTraces = false) {D : Nat} (hD : 1 ≤ D) (F : Nat) (a0 : Int32) (a1 : Int32) (a2 : Int32) (M : cM) (r : Int32 × cM) (h : f_X0_weightOfCut F a0 a1 a2 M = some r) : CTx q yX0_weightOfCut (.code yX0_weightOfCut cX0_weightOfCut 3 (some .int)) D [.int a0, .int a1, .int a2] M (eI r) := by
  exact CTx_of (own := RX0) (rk := 0) hst (by decide +kernel) rfl (rfl) (Nat.le_of_ble_eq_true rfl) (fun X hX G => by subst hX; exact ok_X0_weightOfCut_0 G (ca_X0_weightOfCut_ok hst hD F) a0 a1 a2 M h)
def n_X0_weightOfCut {R' : Type} (f : Int32 → Int32 → Int32 → cM → Option (Int32 × cM)) : cFn R' := fun as M κ κx => match as with
  | [.int a0, .int a1, .int a2] => (f a0 a1 a2 M).bind fun p => κ (some (.int p.1)) p.2
  | _ => none
theorem w_X0_weightOfCut : ∀ w ∈ [Cond.static yX0_weightOfCut, .initialized yX0_weightOfCut.cls, .code yX0_weightOfCut cX0_weightOfCut 3 (some .int)], w ∈ lw_good := List.forall_mem_cons.mpr ⟨lw_good_of (tb_ok 827 (by decide +kernel)) rfl, List.forall_mem_cons.mpr ⟨lw_good_of (tb_ok 19 (by decide +kernel)) rfl, List.forall_mem_cons.mpr ⟨lw_good_of (tb_ok 828 (by decide +kernel)) rfl, fun _ h => absurd h List.not_mem_nil⟩⟩⟩
theorem n_X0_weightOfCut_ok {R' : Type} {q : cL} {own : String} {d k : Nat} {f : Int32 → Int32 → Int32 → cM → Option (Int32 × cM)} (hl : Cond.methodLink own k yX0_weightOfCut ∈ lw_good) (hf : ∀ a0 a1 a2 M r, f a0 a1 a2 M = some r → CTx q yX0_weightOfCut (.code yX0_weightOfCut cX0_weightOfCut 3 (some .int)) d [.int a0, .int a1, .int a2] M (eI r)) : ceS q own d (3 * k) (n_X0_weightOfCut (R' := R') f) := by
  intro as M κ κx r h
  unfold n_X0_weightOfCut at h
  split at h
  · obtain ⟨p, h1, h2⟩ := Option.bind_eq_some_iff.mp h
    exact ⟨eI p, fun _ => h2, fun hne => absurd rfl hne, Or.inl ⟨yX0_weightOfCut, cX0_weightOfCut, 3, (some .int), k, 3, rfl, hf _ _ _ _ _ h1, List.forall_mem_cons.mpr ⟨hl, w_X0_weightOfCut⟩, ⟨by decide +kernel, by decide +kernel, by decide +kernel⟩, rfl, by decide⟩⟩
  · cases h
-- PatchbayScript$Atom.weightOfEach(II)I
def T_X0_weightOfEach : List cRow := [(0, .bipush 6, 2, 0), (2, .iload_n 0, 3, 0), (3, .ifCond .ne 7, 6, 10), (6, .iconst 0, 7, 0), (7, .goto 4, 10, 11), (10, .iconst 1, 11, 0), (11, .iadd, 12, 0), (12, .iload_n 1, 13, 0), (13, .ifCond .ne 7, 16, 20), (16, .iconst 0, 17, 0), (17, .goto 4, 20, 21), (20, .iconst 1, 21, 0), (21, .iadd, 22, 0), (22, .ireturn, 23, 0)]
theorem T_X0_weightOfEach_ok : T_X0_weightOfEach.all (rowB cX0_weightOfEach) = true := by decide +kernel
def th_X0_weightOfEach : List (Nat × Nat) := []
def sw_X0_weightOfEach : List (Nat × (List (Int32 × Nat) × Nat)) := []
theorem sw_X0_weightOfEach_ok : ∀ q ∈ sw_X0_weightOfEach, swS cX0_weightOfEach q := fun _ h => absurd h List.not_mem_nil
def na_X0_weightOfEach : List (Nat × Nat) := []
def ca_X0_weightOfEach {R' : Type} (F : Nat) : List (Nat × cFn R') := []
theorem ca_X0_weightOfEach_ok {R' : Type} {q : cL} (hst : q.1.stackTraces = false) {D : Nat} (hD : 0 ≤ D) (F : Nat) : ∀ x ∈ (ca_X0_weightOfEach (R' := R') F), 1 ≤ D ∧ ceS q RX0 (D - 1) x.1 x.2 := fun _ h => absurd h List.not_mem_nil
def kd_X0_weightOfEach_11 (g : Int32 → Int32 → Int32 → cM → Option (Int32 × cM)) : cKf (Int32 × cM) := fun vs st M => (lI vs 1).bind fun x1 => match st with
  | [.int s1, .int s0] => g x1 s0 s1 M
  | _ => none
theorem kf_X0_weightOfEach_11 {X : cCtx} {o : cO} {r : Int32 × cM} {g : Int32 → Int32 → Int32 → cM → Option (Int32 × cM)} (hg : ∀ x1 s0 s1 M, g x1 s0 s1 M = some r → WX X 2 o 11 [none, some (.int x1)] [.int s1, .int s0] M) : ∀ vs st M, kd_X0_weightOfEach_11 g vs st M = some r → WX X 2 o 11 vs st M := by
  intro vs st M h
  unfold kd_X0_weightOfEach_11 at h
  obtain ⟨x1, h1, h⟩ := Option.bind_eq_some_iff.mp h
  split at h
  · exact WX_weak (hg _ _ _ _ h) rfl ⟨lI_of h1, trivial⟩
  · cases h
theorem e_X0_weightOfEach_11 (F : Nat) (x1 : Int32) (s0 : Int32) (s1 : Int32) (M : cM) : b_X0_weightOfEach_11 F x1 s0 s1 M = run T_X0_weightOfEach P_RX0 false 0 (naL na_X0_weightOfEach) (caL (ca_X0_weightOfEach F)) (lkN th_X0_weightOfEach) (lkN sw_X0_weightOfEach) krI kxN (spL []) (KL []) 17 11 [none, some (.int x1)] [.int s1, .int s0] M := rfl
theorem ok_X0_weightOfEach_11 {X : cCtx} {D : Nat} {r : Int32 × cM} (G : FX X 2 (eI r) cX0_weightOfEach RX0 0 D) {F : Nat} (hca : ∀ x ∈ (ca_X0_weightOfEach (R' := Int32 × cM) F), 1 ≤ D ∧ ceS X.1 RX0 (D - 1) x.1 x.2) : ∀ x1 s0 s1 M, f_X0_weightOfEach_11 F x1 s0 s1 M = some r → WX X 2 (eI r) 11 [none, some (.int x1)] [.int s1, .int s0] M := by
  intro x1 s0 s1 M h
  exact seg_ok G P_RX0_ok T_X0_weightOfEach_ok hca (fun _ h => absurd h List.not_mem_nil) sw_X0_weightOfEach_ok krI_ok (kxN_ok (f := eI)) (fun _ h => absurd h List.not_mem_nil) ((e_X0_weightOfEach_11 F x1 s0 s1 M).symm.trans h)
theorem e_X0_weightOfEach_0 (F : Nat) (t11 : Int32 → Int32 → Int32 → cM → Option (Int32 × cM)) (x0 : Int32) (x1 : Int32) (M : cM) : b_X0_weightOfEach_0 F t11 x0 x1 M = run T_X0_weightOfEach P_RX0 false 0 (naL na_X0_weightOfEach) (caL (ca_X0_weightOfEach F)) (lkN th_X0_weightOfEach) (lkN sw_X0_weightOfEach) krI kxN (spL [11]) (KL [(11, kd_X0_weightOfEach_11 t11)]) 17 0 [some (.int x0), some (.int x1)] [] M := rfl
theorem ok_X0_weightOfEach_0 {X : cCtx} {D : Nat} {r : Int32 × cM} (G : FX X 2 (eI r) cX0_weightOfEach RX0 0 D) {F : Nat} (hca : ∀ x ∈ (ca_X0_weightOfEach (R' := Int32 × cM) F), 1 ≤ D ∧ ceS X.1 RX0 (D - 1) x.1 x.2) : ∀ x0 x1 M, f_X0_weightOfEach_0 F x0 x1 M = some r → WX X 2 (eI r) 0 [some (.int x0), some (.int x1)] [] M := by
  intro x0 x1 M h
  exact seg_ok G P_RX0_ok T_X0_weightOfEach_ok hca (fun _ h => absurd h List.not_mem_nil) sw_X0_weightOfEach_ok krI_ok (kxN_ok (f := eI)) (List.forall_mem_cons.mpr ⟨kf_X0_weightOfEach_11 (ok_X0_weightOfEach_11 G hca), fun _ h => absurd h List.not_mem_nil⟩) ((e_X0_weightOfEach_0 F (f_X0_weightOfEach_11 F) x0 x1 M).symm.trans h)
theorem c_X0_weightOfEach {q : cL} (hst : q.1.stackTraces = false) {D : Nat} (hD : 0 ≤ D) (F : Nat) (a0 : Int32) (a1 : Int32) (M : cM) (r : Int32 × cM) (h : f_X0_weightOfEach F a0 a1 M = some r) : CTx q yX0_weightOfEach (.code yX0_weightOfEach cX0_weightOfEach 2 (some .int)) D [.int a0, .int a1] M (eI r) := by
  exact CTx_of (own := RX0) (rk := 0) hst (by decide +kernel) rfl (rfl) (Nat.le_of_ble_eq_true rfl) (fun X hX G => by subst hX; exact ok_X0_weightOfEach_0 G (ca_X0_weightOfEach_ok hst hD F) a0 a1 M h)
def n_X0_weightOfEach {R' : Type} (f : Int32 → Int32 → cM → Option (Int32 × cM)) : cFn R' := fun as M κ κx => match as with
  | [.int a0, .int a1] => (f a0 a1 M).bind fun p => κ (some (.int p.1)) p.2
  | _ => none
theorem w_X0_weightOfEach : ∀ w ∈ [Cond.static yX0_weightOfEach, .initialized yX0_weightOfEach.cls, .code yX0_weightOfEach cX0_weightOfEach 2 (some .int)], w ∈ lw_good := List.forall_mem_cons.mpr ⟨lw_good_of (tb_ok 849 (by decide +kernel)) rfl, List.forall_mem_cons.mpr ⟨lw_good_of (tb_ok 19 (by decide +kernel)) rfl, List.forall_mem_cons.mpr ⟨lw_good_of (tb_ok 850 (by decide +kernel)) rfl, fun _ h => absurd h List.not_mem_nil⟩⟩⟩
theorem n_X0_weightOfEach_ok {R' : Type} {q : cL} {own : String} {d k : Nat} {f : Int32 → Int32 → cM → Option (Int32 × cM)} (hl : Cond.methodLink own k yX0_weightOfEach ∈ lw_good) (hf : ∀ a0 a1 M r, f a0 a1 M = some r → CTx q yX0_weightOfEach (.code yX0_weightOfEach cX0_weightOfEach 2 (some .int)) d [.int a0, .int a1] M (eI r)) : ceS q own d (3 * k) (n_X0_weightOfEach (R' := R') f) := by
  intro as M κ κx r h
  unfold n_X0_weightOfEach at h
  split at h
  · obtain ⟨p, h1, h2⟩ := Option.bind_eq_some_iff.mp h
    exact ⟨eI p, fun _ => h2, fun hne => absurd rfl hne, Or.inl ⟨yX0_weightOfEach, cX0_weightOfEach, 2, (some .int), k, 2, rfl, hf _ _ _ _ h1, List.forall_mem_cons.mpr ⟨hl, w_X0_weightOfEach⟩, ⟨by decide +kernel, by decide +kernel, by decide +kernel⟩, rfl, by decide⟩⟩
  · cases h
-- PatchbayScript$Atom.weightOf(I)I
def T_X0_weightOf : List cRow := [(0, .iload_n 0, 1, 0), (1, .invokestatic 28, 4, 0), (4, .lookupswitch 55 #[(0, 28), (1, 36)], 5, 0), (32, .iload_n 0, 33, 0), (33, .invokestatic 42, 36, 0), (36, .invokestatic 45, 39, 0), (39, .ireturn, 40, 0), (40, .iload_n 0, 41, 0), (41, .iconst 1, 42, 0), (42, .invokestatic 48, 45, 0), (45, .iload_n 0, 46, 0), (46, .iconst 2, 47, 0), (47, .invokestatic 48, 50, 0), (50, .iload_n 0, 51, 0), (51, .iconst 3, 52, 0), (52, .invokestatic 48, 55, 0), (55, .invokestatic 51, 58, 0), (58, .ireturn, 59, 0), (59, .iload_n 0, 60, 0), (60, .iconst 2, 61, 0), (61, .invokestatic 48, 64, 0), (64, .iload_n 0, 65, 0), (65, .iconst 3, 66, 0), (66, .invokestatic 48, 69, 0), (69, .invokestatic 55, 72, 0), (72, .ireturn, 73, 0)]
theorem T_X0_weightOf_ok : T_X0_weightOf.all (rowB cX0_weightOf) = true := by decide +kernel
def th_X0_weightOf : List (Nat × Nat) := []
def sw_X0_weightOf : List (Nat × (List (Int32 × Nat) × Nat)) := [(4, ([(0, 32), (1, 40)], 59))]
theorem sw_X0_weightOf_ok : ∀ q ∈ sw_X0_weightOf, swS cX0_weightOf q := List.forall_mem_cons.mpr ⟨⟨.lookupswitch 55 #[(0, 28), (1, 36)], 28, by decide +kernel⟩, fun _ h => absurd h List.not_mem_nil⟩
def na_X0_weightOf : List (Nat × Nat) := [(84, 1), (126, 1), (135, 1), (144, 2), (153, 3), (165, 2)]
def ca_X0_weightOf {R' : Type} (F : Nat) : List (Nat × cFn R') := [(84, n_X0_kindOf (f_X0_kindOf F)), (126, n_X0_signsOf (f_X0_signsOf F)), (135, n_X0_weightOfConst (f_X0_weightOfConst F)), (144, n_X0_partOf (f_X0_partOf F)), (153, n_X0_weightOfCut (f_X0_weightOfCut F)), (165, n_X0_weightOfEach (f_X0_weightOfEach F))]
theorem ca_X0_weightOf_ok {R' : Type} {q : cL} (hst : q.1.stackTraces = false) {D : Nat} (hD : 2 ≤ D) (F : Nat) : ∀ x ∈ (ca_X0_weightOf (R' := R') F), 1 ≤ D ∧ ceS q RX0 (D - 1) x.1 x.2 := List.forall_mem_cons.mpr ⟨⟨by omega, n_X0_kindOf_ok (k := 28) (lw_good_of (tb_ok 601 (by decide +kernel)) rfl) (fun a0 M r h => c_X0_kindOf hst (by omega) F a0 M r h)⟩, List.forall_mem_cons.mpr ⟨⟨by omega, n_X0_signsOf_ok (k := 42) (lw_good_of (tb_ok 588 (by decide +kernel)) rfl) (fun a0 M r h => c_X0_signsOf hst (by omega) F a0 M r h)⟩, List.forall_mem_cons.mpr ⟨⟨by omega, n_X0_weightOfConst_ok (k := 45) (lw_good_of (tb_ok 844 (by decide +kernel)) rfl) (fun a0 M r h => c_X0_weightOfConst hst (by omega) F a0 M r h)⟩, List.forall_mem_cons.mpr ⟨⟨by omega, n_X0_partOf_ok (k := 48) (lw_good_of (tb_ok 598 (by decide +kernel)) rfl) (fun a0 a1 M r h => c_X0_partOf hst (by omega) F a0 a1 M r h)⟩, List.forall_mem_cons.mpr ⟨⟨by omega, n_X0_weightOfCut_ok (k := 51) (lw_good_of (tb_ok 847 (by decide +kernel)) rfl) (fun a0 a1 a2 M r h => c_X0_weightOfCut hst (by omega) F a0 a1 a2 M r h)⟩, List.forall_mem_cons.mpr ⟨⟨by omega, n_X0_weightOfEach_ok (k := 55) (lw_good_of (tb_ok 848 (by decide +kernel)) rfl) (fun a0 a1 M r h => c_X0_weightOfEach hst (by omega) F a0 a1 M r h)⟩, fun _ h => absurd h List.not_mem_nil⟩⟩⟩⟩⟩⟩
theorem e_X0_weightOf_0 (F : Nat) (x0 : Int32) (M : cM) : b_X0_weightOf_0 F x0 M = run T_X0_weightOf P_RX0 false 0 (naL na_X0_weightOf) (caL (ca_X0_weightOf F)) (lkN th_X0_weightOf) (lkN sw_X0_weightOf) krI kxN (spL []) (KL []) 29 0 [some (.int x0)] [] M := rfl
theorem ok_X0_weightOf_0 {X : cCtx} {D : Nat} {r : Int32 × cM} (G : FX X 1 (eI r) cX0_weightOf RX0 0 D) {F : Nat} (hca : ∀ x ∈ (ca_X0_weightOf (R' := Int32 × cM) F), 1 ≤ D ∧ ceS X.1 RX0 (D - 1) x.1 x.2) : ∀ x0 M, f_X0_weightOf_0 F x0 M = some r → WX X 1 (eI r) 0 [some (.int x0)] [] M := by
  intro x0 M h
  exact seg_ok G P_RX0_ok T_X0_weightOf_ok hca (fun _ h => absurd h List.not_mem_nil) sw_X0_weightOf_ok krI_ok (kxN_ok (f := eI)) (fun _ h => absurd h List.not_mem_nil) ((e_X0_weightOf_0 F x0 M).symm.trans h)
theorem c_X0_weightOf {q : cL} (hst : q.1.stackTraces = false) {D : Nat} (hD : 2 ≤ D) (F : Nat) (a0 : Int32) (M : cM) (r : Int32 × cM) (h : f_X0_weightOf F a0 M = some r) : CTx q yX0_weightOf (.code yX0_weightOf cX0_weightOf 1 (some .int)) D [.int a0] M (eI r) := by
  exact CTx_of (own := RX0) (rk := 0) hst (by decide +kernel) rfl (rfl) (Nat.le_of_ble_eq_true rfl) (fun X hX G => by subst hX; exact ok_X0_weightOf_0 G (ca_X0_weightOf_ok hst hD F) a0 M h)
def n_X0_weightOf {R' : Type} (f : Int32 → cM → Option (Int32 × cM)) : cFn R' := fun as M κ κx => match as with
  | [.int a0] => (f a0 M).bind fun p => κ (some (.int p.1)) p.2
  | _ => none
theorem w_X0_weightOf : ∀ w ∈ [Cond.static yX0_weightOf, .initialized yX0_weightOf.cls, .code yX0_weightOf cX0_weightOf 1 (some .int)], w ∈ lw_good := List.forall_mem_cons.mpr ⟨lw_good_of (tb_ok 842 (by decide +kernel)) rfl, List.forall_mem_cons.mpr ⟨lw_good_of (tb_ok 19 (by decide +kernel)) rfl, List.forall_mem_cons.mpr ⟨lw_good_of (tb_ok 843 (by decide +kernel)) rfl, fun _ h => absurd h List.not_mem_nil⟩⟩⟩
theorem n_X0_weightOf_ok {R' : Type} {q : cL} {own : String} {d k : Nat} {f : Int32 → cM → Option (Int32 × cM)} (hl : Cond.methodLink own k yX0_weightOf ∈ lw_good) (hf : ∀ a0 M r, f a0 M = some r → CTx q yX0_weightOf (.code yX0_weightOf cX0_weightOf 1 (some .int)) d [.int a0] M (eI r)) : ceS q own d (3 * k) (n_X0_weightOf (R' := R') f) := by
  intro as M κ κx r h
  unfold n_X0_weightOf at h
  split at h
  · obtain ⟨p, h1, h2⟩ := Option.bind_eq_some_iff.mp h
    exact ⟨eI p, fun _ => h2, fun hne => absurd rfl hne, Or.inl ⟨yX0_weightOf, cX0_weightOf, 1, (some .int), k, 1, rfl, hf _ _ _ h1, List.forall_mem_cons.mpr ⟨hl, w_X0_weightOf⟩, ⟨by decide +kernel, by decide +kernel, by decide +kernel⟩, rfl, by decide⟩⟩
  · cases h
-- PatchbayScript$Atom.numberOf(II)I
def T_X0_numberOf : List cRow := [(0, .iload_n 1, 1, 0), (1, .ifCond .ne 8, 4, 9), (4, .iload_n 0, 5, 0), (5, .invokestatic 28, 8, 0), (8, .ireturn, 9, 0), (9, .iload_n 1, 10, 0), (10, .iconst 4, 11, 0), (11, .if_icmp .ne 8, 14, 19), (14, .iload_n 0, 15, 0), (15, .invokestatic 58, 18, 0), (18, .ireturn, 19, 0), (19, .iload_n 0, 20, 0), (20, .invokestatic 28, 23, 0), (23, .ifCond .ne 13, 26, 36), (26, .iload_n 0, 27, 0), (27, .iload_n 1, 28, 0), (28, .iconst 1, 29, 0), (29, .isub, 30, 0), (30, .invokestatic 61, 33, 0), (33, .goto 8, 36, 41), (36, .iload_n 0, 37, 0), (37, .iload_n 1, 38, 0), (38, .invokestatic 48, 41, 0), (41, .ireturn, 42, 0)]
theorem T_X0_numberOf_ok : T_X0_numberOf.all (rowB cX0_numberOf) = true := by decide +kernel
def th_X0_numberOf : List (Nat × Nat) := []
def sw_X0_numberOf : List (Nat × (List (Int32 × Nat) × Nat)) := []
theorem sw_X0_numberOf_ok : ∀ q ∈ sw_X0_numberOf, swS cX0_numberOf q := fun _ h => absurd h List.not_mem_nil
def na_X0_numberOf : List (Nat × Nat) := [(84, 1), (174, 1), (183, 2), (144, 2)]
def ca_X0_numberOf {R' : Type} (F : Nat) : List (Nat × cFn R') := [(84, n_X0_kindOf (f_X0_kindOf F)), (174, n_X0_weightOf (f_X0_weightOf F)), (183, n_X0_signOf (f_X0_signOf F)), (144, n_X0_partOf (f_X0_partOf F))]
theorem ca_X0_numberOf_ok {R' : Type} {q : cL} (hst : q.1.stackTraces = false) {D : Nat} (hD : 3 ≤ D) (F : Nat) : ∀ x ∈ (ca_X0_numberOf (R' := R') F), 1 ≤ D ∧ ceS q RX0 (D - 1) x.1 x.2 := List.forall_mem_cons.mpr ⟨⟨by omega, n_X0_kindOf_ok (k := 28) (lw_good_of (tb_ok 601 (by decide +kernel)) rfl) (fun a0 M r h => c_X0_kindOf hst (by omega) F a0 M r h)⟩, List.forall_mem_cons.mpr ⟨⟨by omega, n_X0_weightOf_ok (k := 58) (lw_good_of (tb_ok 1039 (by decide +kernel)) rfl) (fun a0 M r h => c_X0_weightOf hst (by omega) F a0 M r h)⟩, List.forall_mem_cons.mpr ⟨⟨by omega, n_X0_signOf_ok (k := 61) (lw_good_of (tb_ok 591 (by decide +kernel)) rfl) (fun a0 a1 M r h => c_X0_signOf hst (by omega) F a0 a1 M r h)⟩, List.forall_mem_cons.mpr ⟨⟨by omega, n_X0_partOf_ok (k := 48) (lw_good_of (tb_ok 598 (by decide +kernel)) rfl) (fun a0 a1 M r h => c_X0_partOf hst (by omega) F a0 a1 M r h)⟩, fun _ h => absurd h List.not_mem_nil⟩⟩⟩⟩
theorem e_X0_numberOf_0 (F : Nat) (x0 : Int32) (x1 : Int32) (M : cM) : b_X0_numberOf_0 F x0 x1 M = run T_X0_numberOf P_RX0 false 0 (naL na_X0_numberOf) (caL (ca_X0_numberOf F)) (lkN th_X0_numberOf) (lkN sw_X0_numberOf) krI kxN (spL []) (KL []) 27 0 [some (.int x0), some (.int x1)] [] M := rfl
theorem ok_X0_numberOf_0 {X : cCtx} {D : Nat} {r : Int32 × cM} (G : FX X 2 (eI r) cX0_numberOf RX0 0 D) {F : Nat} (hca : ∀ x ∈ (ca_X0_numberOf (R' := Int32 × cM) F), 1 ≤ D ∧ ceS X.1 RX0 (D - 1) x.1 x.2) : ∀ x0 x1 M, f_X0_numberOf_0 F x0 x1 M = some r → WX X 2 (eI r) 0 [some (.int x0), some (.int x1)] [] M := by
  intro x0 x1 M h
  exact seg_ok G P_RX0_ok T_X0_numberOf_ok hca (fun _ h => absurd h List.not_mem_nil) sw_X0_numberOf_ok krI_ok (kxN_ok (f := eI)) (fun _ h => absurd h List.not_mem_nil) ((e_X0_numberOf_0 F x0 x1 M).symm.trans h)
theorem c_X0_numberOf {q : cL} (hst : q.1.stackTraces = false) {D : Nat} (hD : 3 ≤ D) (F : Nat) (a0 : Int32) (a1 : Int32) (M : cM) (r : Int32 × cM) (h : f_X0_numberOf F a0 a1 M = some r) : CTx q yX0_numberOf (.code yX0_numberOf cX0_numberOf 2 (some .int)) D [.int a0, .int a1] M (eI r) := by
  exact CTx_of (own := RX0) (rk := 0) hst (by decide +kernel) rfl (rfl) (Nat.le_of_ble_eq_true rfl) (fun X hX G => by subst hX; exact ok_X0_numberOf_0 G (ca_X0_numberOf_ok hst hD F) a0 a1 M h)
def n_X0_numberOf {R' : Type} (f : Int32 → Int32 → cM → Option (Int32 × cM)) : cFn R' := fun as M κ κx => match as with
  | [.int a0, .int a1] => (f a0 a1 M).bind fun p => κ (some (.int p.1)) p.2
  | _ => none
theorem w_X0_numberOf : ∀ w ∈ [Cond.static yX0_numberOf, .initialized yX0_numberOf.cls, .code yX0_numberOf cX0_numberOf 2 (some .int)], w ∈ lw_good := List.forall_mem_cons.mpr ⟨lw_good_of (tb_ok 1037 (by decide +kernel)) rfl, List.forall_mem_cons.mpr ⟨lw_good_of (tb_ok 19 (by decide +kernel)) rfl, List.forall_mem_cons.mpr ⟨lw_good_of (tb_ok 1038 (by decide +kernel)) rfl, fun _ h => absurd h List.not_mem_nil⟩⟩⟩
theorem n_X0_numberOf_ok {R' : Type} {q : cL} {own : String} {d k : Nat} {f : Int32 → Int32 → cM → Option (Int32 × cM)} (hl : Cond.methodLink own k yX0_numberOf ∈ lw_good) (hf : ∀ a0 a1 M r, f a0 a1 M = some r → CTx q yX0_numberOf (.code yX0_numberOf cX0_numberOf 2 (some .int)) d [.int a0, .int a1] M (eI r)) : ceS q own d (3 * k) (n_X0_numberOf (R' := R') f) := by
  intro as M κ κx r h
  unfold n_X0_numberOf at h
  split at h
  · obtain ⟨p, h1, h2⟩ := Option.bind_eq_some_iff.mp h
    exact ⟨eI p, fun _ => h2, fun hne => absurd rfl hne, Or.inl ⟨yX0_numberOf, cX0_numberOf, 2, (some .int), k, 2, rfl, hf _ _ _ _ h1, List.forall_mem_cons.mpr ⟨hl, w_X0_numberOf⟩, ⟨by decide +kernel, by decide +kernel, by decide +kernel⟩, rfl, by decide⟩⟩
  · cases h
-- PatchbayScript$Sign.isOf(CI)Z
def T_X7_isOf : List cRow := [(0, .iload_n 0, 1, 0), (1, .bipush 65, 3, 0), (3, .if_icmp .lt 13, 6, 16), (6, .iload_n 0, 7, 0), (7, .bipush 90, 9, 0), (9, .if_icmp .gt 7, 12, 16), (12, .iconst 1, 13, 0), (13, .goto 4, 16, 17), (16, .iconst 0, 17, 0), (17, .istore_n 2, 18, 0), (18, .iload_n 1, 19, 0), (19, .tableswitch 67 0 2 #[25, 43, 65], 20, 0), (44, .iload_n 0, 45, 0), (45, .bipush 48, 47, 0), (47, .if_icmp .lt 13, 50, 60), (50, .iload_n 0, 51, 0), (51, .bipush 57, 53, 0), (53, .if_icmp .gt 7, 56, 60), (56, .iconst 1, 57, 0), (57, .goto 4, 60, 61), (60, .iconst 0, 61, 0), (61, .ireturn, 62, 0), (62, .iload_n 2, 63, 0), (63, .ifCond .ne 15, 66, 78), (66, .iload_n 0, 67, 0), (67, .bipush 97, 69, 0), (69, .if_icmp .lt 13, 72, 82), (72, .iload_n 0, 73, 0), (73, .bipush 122, 75, 0), (75, .if_icmp .gt 7, 78, 82), (78, .iconst 1, 79, 0), (79, .goto 4, 82, 83), (82, .iconst 0, 83, 0), (83, .ireturn, 84, 0), (84, .iload_n 2, 85, 0), (85, .ireturn, 86, 0), (86, .iload_n 0, 87, 0), (87, .bipush 32, 89, 0), (89, .if_icmp .eq 7, 92, 96), (92, .iconst 1, 93, 0), (93, .goto 4, 96, 97), (96, .iconst 0, 97, 0), (97, .ireturn, 98, 0)]
theorem T_X7_isOf_ok : T_X7_isOf.all (rowB cX7_isOf) = true := by decide +kernel
def th_X7_isOf : List (Nat × Nat) := []
def sw_X7_isOf : List (Nat × (List (Int32 × Nat) × Nat)) := [(19, ([(0, 44), (1, 62), (2, 84)], 86))]
theorem sw_X7_isOf_ok : ∀ q ∈ sw_X7_isOf, swS cX7_isOf q := List.forall_mem_cons.mpr ⟨⟨.tableswitch 67 0 2 #[25, 43, 65], 25, by decide +kernel⟩, fun _ h => absurd h List.not_mem_nil⟩
def na_X7_isOf : List (Nat × Nat) := []
def ca_X7_isOf {R' : Type} (F : Nat) : List (Nat × cFn R') := []
theorem ca_X7_isOf_ok {R' : Type} {q : cL} (hst : q.1.stackTraces = false) {D : Nat} (hD : 0 ≤ D) (F : Nat) : ∀ x ∈ (ca_X7_isOf (R' := R') F), 1 ≤ D ∧ ceS q RX7 (D - 1) x.1 x.2 := fun _ h => absurd h List.not_mem_nil
def kd_X7_isOf_17 (g : Int32 → Int32 → Int32 → cM → Option (Int32 × cM)) : cKf (Int32 × cM) := fun vs st M => (lI vs 0).bind fun x0 => (lI vs 1).bind fun x1 => match st with
  | [.int s0] => g x0 x1 s0 M
  | _ => none
theorem kf_X7_isOf_17 {X : cCtx} {o : cO} {r : Int32 × cM} {g : Int32 → Int32 → Int32 → cM → Option (Int32 × cM)} (hg : ∀ x0 x1 s0 M, g x0 x1 s0 M = some r → WX X 3 o 17 [some (.int x0), some (.int x1), none] [.int s0] M) : ∀ vs st M, kd_X7_isOf_17 g vs st M = some r → WX X 3 o 17 vs st M := by
  intro vs st M h
  unfold kd_X7_isOf_17 at h
  obtain ⟨x0, h0, h⟩ := Option.bind_eq_some_iff.mp h
  obtain ⟨x1, h1, h⟩ := Option.bind_eq_some_iff.mp h
  split at h
  · exact WX_weak (hg _ _ _ _ h) rfl ⟨lI_of h0, lI_of h1, trivial⟩
  · cases h
theorem e_X7_isOf_17 (F : Nat) (x0 : Int32) (x1 : Int32) (s0 : Int32) (M : cM) : b_X7_isOf_17 F x0 x1 s0 M = run T_X7_isOf P_RX7 false 1 (naL na_X7_isOf) (caL (ca_X7_isOf F)) (lkN th_X7_isOf) (lkN sw_X7_isOf) krI kxN (spL []) (KL []) 46 17 [some (.int x0), some (.int x1), none] [.int s0] M := rfl
theorem ok_X7_isOf_17 {X : cCtx} {D : Nat} {r : Int32 × cM} (G : FX X 3 (eI r) cX7_isOf RX7 1 D) {F : Nat} (hca : ∀ x ∈ (ca_X7_isOf (R' := Int32 × cM) F), 1 ≤ D ∧ ceS X.1 RX7 (D - 1) x.1 x.2) : ∀ x0 x1 s0 M, f_X7_isOf_17 F x0 x1 s0 M = some r → WX X 3 (eI r) 17 [some (.int x0), some (.int x1), none] [.int s0] M := by
  intro x0 x1 s0 M h
  exact seg_ok G P_RX7_ok T_X7_isOf_ok hca (fun _ h => absurd h List.not_mem_nil) sw_X7_isOf_ok krI_ok (kxN_ok (f := eI)) (fun _ h => absurd h List.not_mem_nil) ((e_X7_isOf_17 F x0 x1 s0 M).symm.trans h)
theorem e_X7_isOf_0 (F : Nat) (t17 : Int32 → Int32 → Int32 → cM → Option (Int32 × cM)) (x0 : Int32) (x1 : Int32) (M : cM) : b_X7_isOf_0 F t17 x0 x1 M = run T_X7_isOf P_RX7 false 1 (naL na_X7_isOf) (caL (ca_X7_isOf F)) (lkN th_X7_isOf) (lkN sw_X7_isOf) krI kxN (spL [17]) (KL [(17, kd_X7_isOf_17 t17)]) 46 0 [some (.int x0), some (.int x1), none] [] M := rfl
theorem ok_X7_isOf_0 {X : cCtx} {D : Nat} {r : Int32 × cM} (G : FX X 3 (eI r) cX7_isOf RX7 1 D) {F : Nat} (hca : ∀ x ∈ (ca_X7_isOf (R' := Int32 × cM) F), 1 ≤ D ∧ ceS X.1 RX7 (D - 1) x.1 x.2) : ∀ x0 x1 M, f_X7_isOf_0 F x0 x1 M = some r → WX X 3 (eI r) 0 [some (.int x0), some (.int x1), none] [] M := by
  intro x0 x1 M h
  exact seg_ok G P_RX7_ok T_X7_isOf_ok hca (fun _ h => absurd h List.not_mem_nil) sw_X7_isOf_ok krI_ok (kxN_ok (f := eI)) (List.forall_mem_cons.mpr ⟨kf_X7_isOf_17 (ok_X7_isOf_17 G hca), fun _ h => absurd h List.not_mem_nil⟩) ((e_X7_isOf_0 F (f_X7_isOf_17 F) x0 x1 M).symm.trans h)
theorem c_X7_isOf {q : cL} (hst : q.1.stackTraces = false) {D : Nat} (hD : 0 ≤ D) (F : Nat) (a0 : Int32) (a1 : Int32) (M : cM) (r : Int32 × cM) (h : f_X7_isOf F a0 a1 M = some r) : CTx q yX7_isOf (.code yX7_isOf cX7_isOf 3 (some .boolean)) D [.int a0, .int a1] M (eI r) := by
  exact CTx_of (own := RX7) (rk := 1) hst (by decide +kernel) rfl (rfl) (Nat.le_of_ble_eq_true rfl) (fun X hX G => by subst hX; exact ok_X7_isOf_0 G (ca_X7_isOf_ok hst hD F) a0 a1 M h)
def n_X7_isOf {R' : Type} (f : Int32 → Int32 → cM → Option (Int32 × cM)) : cFn R' := fun as M κ κx => match as with
  | [.int a0, .int a1] => (f a0 a1 M).bind fun p => κ (some (.int p.1)) p.2
  | _ => none
theorem w_X7_isOf : ∀ w ∈ [Cond.static yX7_isOf, .initialized yX7_isOf.cls, .code yX7_isOf cX7_isOf 3 (some .boolean)], w ∈ lw_good := List.forall_mem_cons.mpr ⟨lw_good_of (tb_ok 419 (by decide +kernel)) rfl, List.forall_mem_cons.mpr ⟨lw_good_of (tb_ok 12 (by decide +kernel)) rfl, List.forall_mem_cons.mpr ⟨lw_good_of (tb_ok 420 (by decide +kernel)) rfl, fun _ h => absurd h List.not_mem_nil⟩⟩⟩
theorem n_X7_isOf_ok {R' : Type} {q : cL} {own : String} {d k : Nat} {f : Int32 → Int32 → cM → Option (Int32 × cM)} (hl : Cond.methodLink own k yX7_isOf ∈ lw_good) (hf : ∀ a0 a1 M r, f a0 a1 M = some r → CTx q yX7_isOf (.code yX7_isOf cX7_isOf 3 (some .boolean)) d [.int a0, .int a1] M (eI r)) : ceS q own d (3 * k) (n_X7_isOf (R' := R') f) := by
  intro as M κ κx r h
  unfold n_X7_isOf at h
  split at h
  · obtain ⟨p, h1, h2⟩ := Option.bind_eq_some_iff.mp h
    exact ⟨eI p, fun _ => h2, fun hne => absurd rfl hne, Or.inl ⟨yX7_isOf, cX7_isOf, 3, (some .boolean), k, 2, rfl, hf _ _ _ _ h1, List.forall_mem_cons.mpr ⟨hl, w_X7_isOf⟩, ⟨by decide +kernel, by decide +kernel, by decide +kernel⟩, rfl, by decide⟩⟩
  · cases h
-- PatchbayScript$Text.add(C)Z
def T_X10_add : List cRow := [(0, .aload_n 0, 1, 0), (1, .getfield 21, 4, 0), (4, .ifCond .lt 12, 7, 16), (7, .aload_n 0, 8, 0), (8, .getfield 21, 11, 0), (11, .bipush 20, 13, 0), (13, .if_icmp .lt 5, 16, 18), (16, .iconst 0, 17, 0), (17, .ireturn, 18, 0), (18, .aload_n 0, 19, 0), (19, .getfield 11, 22, 0), (22, .aload_n 0, 23, 0), (23, .getfield 21, 26, 0), (26, .iload_n 1, 27, 0), (27, .castore, 28, 0), (28, .iconst 0, 29, 0), (29, .istore_n 2, 30, 0), (30, .iload_n 2, 31, 0), (31, .iconst 4, 32, 0), (32, .if_icmp .ge 32, 35, 64), (35, .iload_n 1, 36, 0), (36, .iload_n 2, 37, 0), (37, .invokestatic 25, 40, 0), (40, .ifCond .eq 18, 43, 58), (43, .aload_n 0, 44, 0), (44, .getfield 17, 47, 0), (47, .iload_n 2, 48, 0), (48, .dup2, 49, 0), (49, .iaload, 50, 0), (50, .iconst 1, 51, 0), (51, .aload_n 0, 52, 0), (52, .getfield 21, 55, 0), (55, .ishl, 56, 0), (56, .ior, 57, 0), (57, .iastore, 58, 0), (58, .iinc 2 1, 61, 0), (61, .goto (-31), 64, 30), (64, .aload_n 0, 65, 0), (65, .dup, 66, 0), (66, .getfield 21, 69, 0), (69, .iconst 1, 70, 0), (70, .iadd, 71, 0), (71, .putfield 21, 74, 0), (74, .iconst 1, 75, 0), (75, .ireturn, 76, 0)]
theorem T_X10_add_ok : T_X10_add.all (rowB cX10_add) = true := by decide +kernel
def th_X10_add : List (Nat × Nat) := []
def sw_X10_add : List (Nat × (List (Int32 × Nat) × Nat)) := []
theorem sw_X10_add_ok : ∀ q ∈ sw_X10_add, swS cX10_add q := fun _ h => absurd h List.not_mem_nil
def na_X10_add : List (Nat × Nat) := [(75, 2)]
def ca_X10_add {R' : Type} (F : Nat) : List (Nat × cFn R') := [(75, n_X7_isOf (f_X7_isOf F))]
theorem ca_X10_add_ok {R' : Type} {q : cL} (hst : q.1.stackTraces = false) {D : Nat} (hD : 1 ≤ D) (F : Nat) : ∀ x ∈ (ca_X10_add (R' := R') F), 1 ≤ D ∧ ceS q RX10 (D - 1) x.1 x.2 := List.forall_mem_cons.mpr ⟨⟨by omega, n_X7_isOf_ok (k := 25) (lw_good_of (tb_ok 512 (by decide +kernel)) rfl) (fun a0 a1 M r h => c_X7_isOf hst (by omega) F a0 a1 M r h)⟩, fun _ h => absurd h List.not_mem_nil⟩
def kd_X10_add_30 (g : Nat → Int32 → Int32 → cM → Option (Int32 × cM)) : cKf (Int32 × cM) := fun vs st M => (lR vs 0).bind fun x0 => (lI vs 1).bind fun x1 => (lI vs 2).bind fun x2 => match st with
  | [] => g x0 x1 x2 M
  | _ => none
theorem kf_X10_add_30 {X : cCtx} {o : cO} {r : Int32 × cM} {g : Nat → Int32 → Int32 → cM → Option (Int32 × cM)} (hg : ∀ x0 x1 x2 M, g x0 x1 x2 M = some r → WX X 3 o 30 [some (.ref x0), some (.int x1), some (.int x2)] [] M) : ∀ vs st M, kd_X10_add_30 g vs st M = some r → WX X 3 o 30 vs st M := by
  intro vs st M h
  unfold kd_X10_add_30 at h
  obtain ⟨x0, h0, h⟩ := Option.bind_eq_some_iff.mp h
  obtain ⟨x1, h1, h⟩ := Option.bind_eq_some_iff.mp h
  obtain ⟨x2, h2, h⟩ := Option.bind_eq_some_iff.mp h
  split at h
  · exact WX_weak (hg _ _ _ _ h) rfl ⟨lR_of h0, lI_of h1, lI_of h2, trivial⟩
  · cases h
theorem e_X10_add_30 (F : Nat) (t30 : Nat → Int32 → Int32 → cM → Option (Int32 × cM)) (x0 : Nat) (x1 : Int32) (x2 : Int32) (M : cM) : b_X10_add_30 F t30 x0 x1 x2 M = run T_X10_add P_RX10 false 1 (naL na_X10_add) (caL (ca_X10_add F)) (lkN th_X10_add) (lkN sw_X10_add) krI kxN (spL [30]) (KL [(30, kd_X10_add_30 t30)]) 48 30 [some (.ref x0), some (.int x1), some (.int x2)] [] M := rfl
theorem ok_X10_add_30 {X : cCtx} {D : Nat} {r : Int32 × cM} (G : FX X 3 (eI r) cX10_add RX10 1 D) {F : Nat} (hca : ∀ x ∈ (ca_X10_add (R' := Int32 × cM) F), 1 ≤ D ∧ ceS X.1 RX10 (D - 1) x.1 x.2) (n : Nat) : ∀ x0 x1 x2 M, f_X10_add_30 F n x0 x1 x2 M = some r → WX X 3 (eI r) 30 [some (.ref x0), some (.int x1), some (.int x2)] [] M := by
  induction n with
  | zero => intro x0 x1 x2 M h; cases h
  | succ n ih =>
    intro x0 x1 x2 M h
    exact seg_ok G P_RX10_ok T_X10_add_ok hca (fun _ h => absurd h List.not_mem_nil) sw_X10_add_ok krI_ok (kxN_ok (f := eI)) (List.forall_mem_cons.mpr ⟨kf_X10_add_30 (ih), fun _ h => absurd h List.not_mem_nil⟩) ((e_X10_add_30 F (f_X10_add_30 F n) x0 x1 x2 M).symm.trans h)
theorem e_X10_add_0 (F : Nat) (t30 : Nat → Int32 → Int32 → cM → Option (Int32 × cM)) (x0 : Nat) (x1 : Int32) (M : cM) : b_X10_add_0 F t30 x0 x1 M = run T_X10_add P_RX10 false 1 (naL na_X10_add) (caL (ca_X10_add F)) (lkN th_X10_add) (lkN sw_X10_add) krI kxN (spL [30]) (KL [(30, kd_X10_add_30 t30)]) 48 0 [some (.ref x0), some (.int x1), none] [] M := rfl
theorem ok_X10_add_0 {X : cCtx} {D : Nat} {r : Int32 × cM} (G : FX X 3 (eI r) cX10_add RX10 1 D) {F : Nat} (hca : ∀ x ∈ (ca_X10_add (R' := Int32 × cM) F), 1 ≤ D ∧ ceS X.1 RX10 (D - 1) x.1 x.2) : ∀ x0 x1 M, f_X10_add_0 F x0 x1 M = some r → WX X 3 (eI r) 0 [some (.ref x0), some (.int x1), none] [] M := by
  intro x0 x1 M h
  exact seg_ok G P_RX10_ok T_X10_add_ok hca (fun _ h => absurd h List.not_mem_nil) sw_X10_add_ok krI_ok (kxN_ok (f := eI)) (List.forall_mem_cons.mpr ⟨kf_X10_add_30 (ok_X10_add_30 G hca F), fun _ h => absurd h List.not_mem_nil⟩) ((e_X10_add_0 F (f_X10_add_30 F F) x0 x1 M).symm.trans h)
theorem c_X10_add {q : cL} (hst : q.1.stackTraces = false) {D : Nat} (hD : 1 ≤ D) (F : Nat) (a0 : Nat) (a1 : Int32) (M : cM) (r : Int32 × cM) (h : f_X10_add F a0 a1 M = some r) : CTx q yX10_add (.code yX10_add cX10_add 3 (some .boolean)) D [.ref a0, .int a1] M (eI r) ∧ ∃ fs, M[a0]? = some (.inr (8, fs)) := by
  unfold f_X10_add at h
  split at h
  · next hi => exact ⟨CTx_of (own := RX10) (rk := 1) hst (by decide +kernel) rfl (rfl) (Nat.le_of_ble_eq_true rfl) (fun X hX G => by subst hX; exact ok_X10_add_0 G (ca_X10_add_ok hst hD F) a0 a1 M h), isC_of hi⟩
  · cases h
def n_X10_add {R' : Type} (f : Nat → Int32 → cM → Option (Int32 × cM)) : cFn R' := fun as M κ κx => match as with
  | [.ref a0, .int a1] => (f a0 a1 M).bind fun p => κ (some (.int p.1)) p.2
  | _ => none
theorem w_X10_add : ∀ w ∈ [Cond.instanceMethod yX10_add, .selects yX10_add.cls yX10_add yX10_add, .initialized yX10_add.cls, .code yX10_add cX10_add 3 (some .boolean)], w ∈ lw_good := List.forall_mem_cons.mpr ⟨lw_good_of (tb_ok 509 (by decide +kernel)) rfl, List.forall_mem_cons.mpr ⟨lw_good_of (tb_ok 510 (by decide +kernel)) rfl, List.forall_mem_cons.mpr ⟨lw_good_of (tb_ok 2 (by decide +kernel)) rfl, List.forall_mem_cons.mpr ⟨lw_good_of (tb_ok 511 (by decide +kernel)) rfl, fun _ h => absurd h List.not_mem_nil⟩⟩⟩⟩
theorem n_X10_add_ok {R' : Type} {q : cL} {own : String} {d k : Nat} {f : Nat → Int32 → cM → Option (Int32 × cM)} (hl : Cond.methodLink own k yX10_add ∈ lw_good) (hf : ∀ a0 a1 M r, f a0 a1 M = some r → CTx q yX10_add (.code yX10_add cX10_add 3 (some .boolean)) d [.ref a0, .int a1] M (eI r) ∧ ∃ fs, M[a0]? = some (.inr (8, fs))) : ceS q own d (3 * k + 1) (n_X10_add (R' := R') f) := by
  intro as M κ κx r h
  unfold n_X10_add at h
  split at h
  · obtain ⟨p, h1, h2⟩ := Option.bind_eq_some_iff.mp h
    obtain ⟨hc, fs, ha⟩ := hf _ _ _ _ h1
    exact ⟨eI p, fun _ => h2, fun hne => absurd rfl hne, Or.inr (Or.inl ⟨yX10_add, cX10_add, 3, (some .boolean), k, 1, _, _, 8, TX10, 3, fs, rfl, rfl, hc, ha, rfl, List.forall_mem_cons.mpr ⟨hl, w_X10_add⟩, ⟨rfl, by decide +kernel, by decide +kernel, by decide +kernel⟩, rfl, by decide⟩)⟩
  · cases h
-- PatchbayScript$Atom.makesConst(ILPatchbayScript$Text;)Z
def T_X0_makesConst : List cRow := [(0, .iload_n 0, 1, 0), (1, .invokestatic 42, 4, 0), (4, .istore_n 2, 5, 0), (5, .iconst 0, 6, 0), (6, .istore_n 3, 7, 0), (7, .iload_n 3, 8, 0), (8, .iload_n 2, 9, 0), (9, .if_icmp .ge 23, 12, 32), (12, .aload_n 1, 13, 0), (13, .iload_n 0, 14, 0), (14, .iload_n 3, 15, 0), (15, .invokestatic 61, 18, 0), (18, .invokevirtual 65, 21, 0), (21, .ifCond .ne 5, 24, 26), (24, .iconst 0, 25, 0), (25, .ireturn, 26, 0), (26, .iinc 3 1, 29, 0), (29, .goto (-22), 32, 7), (32, .iconst 1, 33, 0), (33, .ireturn, 34, 0)]
theorem T_X0_makesConst_ok : T_X0_makesConst.all (rowB cX0_makesConst) = true := by decide +kernel
def th_X0_makesConst : List (Nat × Nat) := []
def sw_X0_makesConst : List (Nat × (List (Int32 × Nat) × Nat)) := []
theorem sw_X0_makesConst_ok : ∀ q ∈ sw_X0_makesConst, swS cX0_makesConst q := fun _ h => absurd h List.not_mem_nil
def na_X0_makesConst : List (Nat × Nat) := [(126, 1), (183, 2), (196, 2)]
def ca_X0_makesConst {R' : Type} (F : Nat) : List (Nat × cFn R') := [(126, n_X0_signsOf (f_X0_signsOf F)), (183, n_X0_signOf (f_X0_signOf F)), (196, n_X10_add (f_X10_add F))]
theorem ca_X0_makesConst_ok {R' : Type} {q : cL} (hst : q.1.stackTraces = false) {D : Nat} (hD : 2 ≤ D) (F : Nat) : ∀ x ∈ (ca_X0_makesConst (R' := R') F), 1 ≤ D ∧ ceS q RX0 (D - 1) x.1 x.2 := List.forall_mem_cons.mpr ⟨⟨by omega, n_X0_signsOf_ok (k := 42) (lw_good_of (tb_ok 588 (by decide +kernel)) rfl) (fun a0 M r h => c_X0_signsOf hst (by omega) F a0 M r h)⟩, List.forall_mem_cons.mpr ⟨⟨by omega, n_X0_signOf_ok (k := 61) (lw_good_of (tb_ok 591 (by decide +kernel)) rfl) (fun a0 a1 M r h => c_X0_signOf hst (by omega) F a0 a1 M r h)⟩, List.forall_mem_cons.mpr ⟨⟨by omega, n_X10_add_ok (k := 65) (lw_good_of (tb_ok 594 (by decide +kernel)) rfl) (fun a0 a1 M r h => c_X10_add hst (by omega) F a0 a1 M r h)⟩, fun _ h => absurd h List.not_mem_nil⟩⟩⟩
def kd_X0_makesConst_7 (g : Int32 → Nat → Int32 → Int32 → cM → Option (Int32 × cM)) : cKf (Int32 × cM) := fun vs st M => (lI vs 0).bind fun x0 => (lR vs 1).bind fun x1 => (lI vs 2).bind fun x2 => (lI vs 3).bind fun x3 => match st with
  | [] => g x0 x1 x2 x3 M
  | _ => none
theorem kf_X0_makesConst_7 {X : cCtx} {o : cO} {r : Int32 × cM} {g : Int32 → Nat → Int32 → Int32 → cM → Option (Int32 × cM)} (hg : ∀ x0 x1 x2 x3 M, g x0 x1 x2 x3 M = some r → WX X 4 o 7 [some (.int x0), some (.ref x1), some (.int x2), some (.int x3)] [] M) : ∀ vs st M, kd_X0_makesConst_7 g vs st M = some r → WX X 4 o 7 vs st M := by
  intro vs st M h
  unfold kd_X0_makesConst_7 at h
  obtain ⟨x0, h0, h⟩ := Option.bind_eq_some_iff.mp h
  obtain ⟨x1, h1, h⟩ := Option.bind_eq_some_iff.mp h
  obtain ⟨x2, h2, h⟩ := Option.bind_eq_some_iff.mp h
  obtain ⟨x3, h3, h⟩ := Option.bind_eq_some_iff.mp h
  split at h
  · exact WX_weak (hg _ _ _ _ _ h) rfl ⟨lI_of h0, lR_of h1, lI_of h2, lI_of h3, trivial⟩
  · cases h
theorem e_X0_makesConst_7 (F : Nat) (t7 : Int32 → Nat → Int32 → Int32 → cM → Option (Int32 × cM)) (x0 : Int32) (x1 : Nat) (x2 : Int32) (x3 : Int32) (M : cM) : b_X0_makesConst_7 F t7 x0 x1 x2 x3 M = run T_X0_makesConst P_RX0 false 1 (naL na_X0_makesConst) (caL (ca_X0_makesConst F)) (lkN th_X0_makesConst) (lkN sw_X0_makesConst) krI kxN (spL [7]) (KL [(7, kd_X0_makesConst_7 t7)]) 23 7 [some (.int x0), some (.ref x1), some (.int x2), some (.int x3)] [] M := rfl
theorem ok_X0_makesConst_7 {X : cCtx} {D : Nat} {r : Int32 × cM} (G : FX X 4 (eI r) cX0_makesConst RX0 1 D) {F : Nat} (hca : ∀ x ∈ (ca_X0_makesConst (R' := Int32 × cM) F), 1 ≤ D ∧ ceS X.1 RX0 (D - 1) x.1 x.2) (n : Nat) : ∀ x0 x1 x2 x3 M, f_X0_makesConst_7 F n x0 x1 x2 x3 M = some r → WX X 4 (eI r) 7 [some (.int x0), some (.ref x1), some (.int x2), some (.int x3)] [] M := by
  induction n with
  | zero => intro x0 x1 x2 x3 M h; cases h
  | succ n ih =>
    intro x0 x1 x2 x3 M h
    exact seg_ok G P_RX0_ok T_X0_makesConst_ok hca (fun _ h => absurd h List.not_mem_nil) sw_X0_makesConst_ok krI_ok (kxN_ok (f := eI)) (List.forall_mem_cons.mpr ⟨kf_X0_makesConst_7 (ih), fun _ h => absurd h List.not_mem_nil⟩) ((e_X0_makesConst_7 F (f_X0_makesConst_7 F n) x0 x1 x2 x3 M).symm.trans h)
theorem e_X0_makesConst_0 (F : Nat) (t7 : Int32 → Nat → Int32 → Int32 → cM → Option (Int32 × cM)) (x0 : Int32) (x1 : Nat) (M : cM) : b_X0_makesConst_0 F t7 x0 x1 M = run T_X0_makesConst P_RX0 false 1 (naL na_X0_makesConst) (caL (ca_X0_makesConst F)) (lkN th_X0_makesConst) (lkN sw_X0_makesConst) krI kxN (spL [7]) (KL [(7, kd_X0_makesConst_7 t7)]) 23 0 [some (.int x0), some (.ref x1), none, none] [] M := rfl
theorem ok_X0_makesConst_0 {X : cCtx} {D : Nat} {r : Int32 × cM} (G : FX X 4 (eI r) cX0_makesConst RX0 1 D) {F : Nat} (hca : ∀ x ∈ (ca_X0_makesConst (R' := Int32 × cM) F), 1 ≤ D ∧ ceS X.1 RX0 (D - 1) x.1 x.2) : ∀ x0 x1 M, f_X0_makesConst_0 F x0 x1 M = some r → WX X 4 (eI r) 0 [some (.int x0), some (.ref x1), none, none] [] M := by
  intro x0 x1 M h
  exact seg_ok G P_RX0_ok T_X0_makesConst_ok hca (fun _ h => absurd h List.not_mem_nil) sw_X0_makesConst_ok krI_ok (kxN_ok (f := eI)) (List.forall_mem_cons.mpr ⟨kf_X0_makesConst_7 (ok_X0_makesConst_7 G hca F), fun _ h => absurd h List.not_mem_nil⟩) ((e_X0_makesConst_0 F (f_X0_makesConst_7 F F) x0 x1 M).symm.trans h)
theorem c_X0_makesConst {q : cL} (hst : q.1.stackTraces = false) {D : Nat} (hD : 2 ≤ D) (F : Nat) (a0 : Int32) (a1 : Nat) (M : cM) (r : Int32 × cM) (h : f_X0_makesConst F a0 a1 M = some r) : CTx q yX0_makesConst (.code yX0_makesConst cX0_makesConst 4 (some .boolean)) D [.int a0, .ref a1] M (eI r) := by
  exact CTx_of (own := RX0) (rk := 1) hst (by decide +kernel) rfl (rfl) (Nat.le_of_ble_eq_true rfl) (fun X hX G => by subst hX; exact ok_X0_makesConst_0 G (ca_X0_makesConst_ok hst hD F) a0 a1 M h)
def n_X0_makesConst {R' : Type} (f : Int32 → Nat → cM → Option (Int32 × cM)) : cFn R' := fun as M κ κx => match as with
  | [.int a0, .ref a1] => (f a0 a1 M).bind fun p => κ (some (.int p.1)) p.2
  | _ => none
theorem w_X0_makesConst : ∀ w ∈ [Cond.static yX0_makesConst, .initialized yX0_makesConst.cls, .code yX0_makesConst cX0_makesConst 4 (some .boolean)], w ∈ lw_good := List.forall_mem_cons.mpr ⟨lw_good_of (tb_ok 586 (by decide +kernel)) rfl, List.forall_mem_cons.mpr ⟨lw_good_of (tb_ok 19 (by decide +kernel)) rfl, List.forall_mem_cons.mpr ⟨lw_good_of (tb_ok 587 (by decide +kernel)) rfl, fun _ h => absurd h List.not_mem_nil⟩⟩⟩
theorem n_X0_makesConst_ok {R' : Type} {q : cL} {own : String} {d k : Nat} {f : Int32 → Nat → cM → Option (Int32 × cM)} (hl : Cond.methodLink own k yX0_makesConst ∈ lw_good) (hf : ∀ a0 a1 M r, f a0 a1 M = some r → CTx q yX0_makesConst (.code yX0_makesConst cX0_makesConst 4 (some .boolean)) d [.int a0, .ref a1] M (eI r)) : ceS q own d (3 * k) (n_X0_makesConst (R' := R') f) := by
  intro as M κ κx r h
  unfold n_X0_makesConst at h
  split at h
  · obtain ⟨p, h1, h2⟩ := Option.bind_eq_some_iff.mp h
    exact ⟨eI p, fun _ => h2, fun hne => absurd rfl hne, Or.inl ⟨yX0_makesConst, cX0_makesConst, 4, (some .boolean), k, 2, rfl, hf _ _ _ _ h1, List.forall_mem_cons.mpr ⟨hl, w_X0_makesConst⟩, ⟨by decide +kernel, by decide +kernel, by decide +kernel⟩, rfl, by decide⟩⟩
  · cases h
-- PatchbayScript$Text.placesOfRuns(II)I
def T_X10_placesOfRuns : List cRow := [(0, .iload_n 1, 1, 0), (1, .ifCond .lt 17, 4, 18), (4, .iload_n 1, 5, 0), (5, .iconst 4, 6, 0), (6, .if_icmp .ge 12, 9, 18), (9, .aload_n 0, 10, 0), (10, .getfield 17, 13, 0), (13, .iload_n 1, 14, 0), (14, .iaload, 15, 0), (15, .goto 4, 18, 19), (18, .iconst 0, 19, 0), (19, .istore_n 3, 20, 0), (20, .iload_n 2, 21, 0), (21, .lookupswitch 43 #[(1, 27), (2, 35)], 22, 0), (48, .iload_n 3, 49, 0), (49, .iload_n 3, 50, 0), (50, .iconst 1, 51, 0), (51, .ishl, 52, 0), (52, .iconst (-1), 53, 0), (53, .ixor, 54, 0), (54, .iand, 55, 0), (55, .ireturn, 56, 0), (56, .iload_n 3, 57, 0), (57, .iload_n 3, 58, 0), (58, .iconst 1, 59, 0), (59, .ishr, 60, 0), (60, .iconst (-1), 61, 0), (61, .ixor, 62, 0), (62, .iand, 63, 0), (63, .ireturn, 64, 0), (64, .iload_n 3, 65, 0), (65, .ireturn, 66, 0)]
theorem T_X10_placesOfRuns_ok : T_X10_placesOfRuns.all (rowB cX10_placesOfRuns) = true := by decide +kernel
def th_X10_placesOfRuns : List (Nat × Nat) := []
def sw_X10_placesOfRuns : List (Nat × (List (Int32 × Nat) × Nat)) := [(21, ([(1, 48), (2, 56)], 64))]
theorem sw_X10_placesOfRuns_ok : ∀ q ∈ sw_X10_placesOfRuns, swS cX10_placesOfRuns q := List.forall_mem_cons.mpr ⟨⟨.lookupswitch 43 #[(1, 27), (2, 35)], 27, by decide +kernel⟩, fun _ h => absurd h List.not_mem_nil⟩
def na_X10_placesOfRuns : List (Nat × Nat) := []
def ca_X10_placesOfRuns {R' : Type} (F : Nat) : List (Nat × cFn R') := []
theorem ca_X10_placesOfRuns_ok {R' : Type} {q : cL} (hst : q.1.stackTraces = false) {D : Nat} (hD : 0 ≤ D) (F : Nat) : ∀ x ∈ (ca_X10_placesOfRuns (R' := R') F), 1 ≤ D ∧ ceS q RX10 (D - 1) x.1 x.2 := fun _ h => absurd h List.not_mem_nil
def kd_X10_placesOfRuns_19 (g : Int32 → Int32 → cM → Option (Int32 × cM)) : cKf (Int32 × cM) := fun vs st M => (lI vs 2).bind fun x2 => match st with
  | [.int s0] => g x2 s0 M
  | _ => none
theorem kf_X10_placesOfRuns_19 {X : cCtx} {o : cO} {r : Int32 × cM} {g : Int32 → Int32 → cM → Option (Int32 × cM)} (hg : ∀ x2 s0 M, g x2 s0 M = some r → WX X 4 o 19 [none, none, some (.int x2), none] [.int s0] M) : ∀ vs st M, kd_X10_placesOfRuns_19 g vs st M = some r → WX X 4 o 19 vs st M := by
  intro vs st M h
  unfold kd_X10_placesOfRuns_19 at h
  obtain ⟨x2, h2, h⟩ := Option.bind_eq_some_iff.mp h
  split at h
  · exact WX_weak (hg _ _ _ h) rfl ⟨lI_of h2, trivial⟩
  · cases h
theorem e_X10_placesOfRuns_19 (F : Nat) (x2 : Int32) (s0 : Int32) (M : cM) : b_X10_placesOfRuns_19 F x2 s0 M = run T_X10_placesOfRuns P_RX10 false 0 (naL na_X10_placesOfRuns) (caL (ca_X10_placesOfRuns F)) (lkN th_X10_placesOfRuns) (lkN sw_X10_placesOfRuns) krI kxN (spL []) (KL []) 35 19 [none, none, some (.int x2), none] [.int s0] M := rfl
theorem ok_X10_placesOfRuns_19 {X : cCtx} {D : Nat} {r : Int32 × cM} (G : FX X 4 (eI r) cX10_placesOfRuns RX10 0 D) {F : Nat} (hca : ∀ x ∈ (ca_X10_placesOfRuns (R' := Int32 × cM) F), 1 ≤ D ∧ ceS X.1 RX10 (D - 1) x.1 x.2) : ∀ x2 s0 M, f_X10_placesOfRuns_19 F x2 s0 M = some r → WX X 4 (eI r) 19 [none, none, some (.int x2), none] [.int s0] M := by
  intro x2 s0 M h
  exact seg_ok G P_RX10_ok T_X10_placesOfRuns_ok hca (fun _ h => absurd h List.not_mem_nil) sw_X10_placesOfRuns_ok krI_ok (kxN_ok (f := eI)) (fun _ h => absurd h List.not_mem_nil) ((e_X10_placesOfRuns_19 F x2 s0 M).symm.trans h)
theorem e_X10_placesOfRuns_0 (F : Nat) (t19 : Int32 → Int32 → cM → Option (Int32 × cM)) (x0 : Nat) (x1 : Int32) (x2 : Int32) (M : cM) : b_X10_placesOfRuns_0 F t19 x0 x1 x2 M = run T_X10_placesOfRuns P_RX10 false 0 (naL na_X10_placesOfRuns) (caL (ca_X10_placesOfRuns F)) (lkN th_X10_placesOfRuns) (lkN sw_X10_placesOfRuns) krI kxN (spL [19]) (KL [(19, kd_X10_placesOfRuns_19 t19)]) 35 0 [some (.ref x0), some (.int x1), some (.int x2), none] [] M := rfl
theorem ok_X10_placesOfRuns_0 {X : cCtx} {D : Nat} {r : Int32 × cM} (G : FX X 4 (eI r) cX10_placesOfRuns RX10 0 D) {F : Nat} (hca : ∀ x ∈ (ca_X10_placesOfRuns (R' := Int32 × cM) F), 1 ≤ D ∧ ceS X.1 RX10 (D - 1) x.1 x.2) : ∀ x0 x1 x2 M, f_X10_placesOfRuns_0 F x0 x1 x2 M = some r → WX X 4 (eI r) 0 [some (.ref x0), some (.int x1), some (.int x2), none] [] M := by
  intro x0 x1 x2 M h
  exact seg_ok G P_RX10_ok T_X10_placesOfRuns_ok hca (fun _ h => absurd h List.not_mem_nil) sw_X10_placesOfRuns_ok krI_ok (kxN_ok (f := eI)) (List.forall_mem_cons.mpr ⟨kf_X10_placesOfRuns_19 (ok_X10_placesOfRuns_19 G hca), fun _ h => absurd h List.not_mem_nil⟩) ((e_X10_placesOfRuns_0 F (f_X10_placesOfRuns_19 F) x0 x1 x2 M).symm.trans h)
theorem c_X10_placesOfRuns {q : cL} (hst : q.1.stackTraces = false) {D : Nat} (hD : 0 ≤ D) (F : Nat) (a0 : Nat) (a1 : Int32) (a2 : Int32) (M : cM) (r : Int32 × cM) (h : f_X10_placesOfRuns F a0 a1 a2 M = some r) : CTx q yX10_placesOfRuns (.code yX10_placesOfRuns cX10_placesOfRuns 4 (some .int)) D [.ref a0, .int a1, .int a2] M (eI r) ∧ ∃ fs, M[a0]? = some (.inr (8, fs)) := by
  unfold f_X10_placesOfRuns at h
  split at h
  · next hi => exact ⟨CTx_of (own := RX10) (rk := 0) hst (by decide +kernel) rfl (rfl) (Nat.le_of_ble_eq_true rfl) (fun X hX G => by subst hX; exact ok_X10_placesOfRuns_0 G (ca_X10_placesOfRuns_ok hst hD F) a0 a1 a2 M h), isC_of hi⟩
  · cases h
def n_X10_placesOfRuns {R' : Type} (f : Nat → Int32 → Int32 → cM → Option (Int32 × cM)) : cFn R' := fun as M κ κx => match as with
  | [.ref a0, .int a1, .int a2] => (f a0 a1 a2 M).bind fun p => κ (some (.int p.1)) p.2
  | _ => none
theorem w_X10_placesOfRuns : ∀ w ∈ [Cond.instanceMethod yX10_placesOfRuns, .selects yX10_placesOfRuns.cls yX10_placesOfRuns yX10_placesOfRuns, .initialized yX10_placesOfRuns.cls, .code yX10_placesOfRuns cX10_placesOfRuns 4 (some .int)], w ∈ lw_good := List.forall_mem_cons.mpr ⟨lw_good_of (tb_ok 562 (by decide +kernel)) rfl, List.forall_mem_cons.mpr ⟨lw_good_of (tb_ok 563 (by decide +kernel)) rfl, List.forall_mem_cons.mpr ⟨lw_good_of (tb_ok 2 (by decide +kernel)) rfl, List.forall_mem_cons.mpr ⟨lw_good_of (tb_ok 564 (by decide +kernel)) rfl, fun _ h => absurd h List.not_mem_nil⟩⟩⟩⟩
theorem n_X10_placesOfRuns_ok {R' : Type} {q : cL} {own : String} {d k : Nat} {f : Nat → Int32 → Int32 → cM → Option (Int32 × cM)} (hl : Cond.methodLink own k yX10_placesOfRuns ∈ lw_good) (hf : ∀ a0 a1 a2 M r, f a0 a1 a2 M = some r → CTx q yX10_placesOfRuns (.code yX10_placesOfRuns cX10_placesOfRuns 4 (some .int)) d [.ref a0, .int a1, .int a2] M (eI r) ∧ ∃ fs, M[a0]? = some (.inr (8, fs))) : ceS q own d (3 * k + 1) (n_X10_placesOfRuns (R' := R') f) := by
  intro as M κ κx r h
  unfold n_X10_placesOfRuns at h
  split at h
  · obtain ⟨p, h1, h2⟩ := Option.bind_eq_some_iff.mp h
    obtain ⟨hc, fs, ha⟩ := hf _ _ _ _ _ h1
    exact ⟨eI p, fun _ => h2, fun hne => absurd rfl hne, Or.inr (Or.inl ⟨yX10_placesOfRuns, cX10_placesOfRuns, 4, (some .int), k, 2, _, _, 8, TX10, 3, fs, rfl, rfl, hc, ha, rfl, List.forall_mem_cons.mpr ⟨hl, w_X10_placesOfRuns⟩, ⟨rfl, by decide +kernel, by decide +kernel, by decide +kernel⟩, rfl, by decide⟩)⟩
  · cases h
