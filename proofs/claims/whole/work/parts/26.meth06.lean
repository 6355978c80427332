/-! METHODS, part 6 (laid by wip/whole/tools/gen.py) -/
-- PatchbayScript$Program.setRow([II)V
def T_X6_setRow : List cRow := [(0, .aload_n 0, 1, 0), (1, .iload_n 2, 2, 0), (2, .iconst 4, 3, 0), (3, .invokestatic 19, 6, 0), (6, .putfield 15, 9, 0), (9, .iconst 0, 10, 0), (10, .istore_n 3, 11, 0), (11, .iload_n 3, 12, 0), (12, .aload_n 0, 13, 0), (13, .getfield 15, 16, 0), (16, .if_icmp .ge 24, 19, 40), (19, .iload_n 3, 20, 0), (20, .aload_n 1, 21, 0), (21, .arraylength, 22, 0), (22, .if_icmp .ge 18, 25, 40), (25, .aload_n 0, 26, 0), (26, .getfield 9, 29, 0), (29, .iload_n 3, 30, 0), (30, .aload_n 1, 31, 0), (31, .iload_n 3, 32, 0), (32, .iaload, 33, 0), (33, .iastore, 34, 0), (34, .iinc 3 1, 37, 0), (37, .goto (-26), 40, 11), (40, .return_, 41, 0)]
theorem T_X6_setRow_ok : T_X6_setRow.all (rowB cX6_setRow) = true := by decide +kernel
def th_X6_setRow : List (Nat × Nat) := []
def sw_X6_setRow : List (Nat × (List (Int32 × Nat) × Nat)) := []
theorem sw_X6_setRow_ok : ∀ q ∈ sw_X6_setRow, swS cX6_setRow q := fun _ h => absurd h List.not_mem_nil
def na_X6_setRow : List (Nat × Nat) := [(57, 2)]
def ca_X6_setRow {R' : Type} (F : Nat) : List (Nat × cFn R') := [(57, n_min)]
theorem ca_X6_setRow_ok {R' : Type} {q : cL} (hst : q.1.stackTraces = false) {D : Nat} (hD : 1 ≤ D) (F : Nat) : ∀ x ∈ (ca_X6_setRow (R' := R') F), 1 ≤ D ∧ ceS q RX6 (D - 1) x.1 x.2 := List.forall_mem_cons.mpr ⟨⟨by omega, n_min_ok (k := 19) (lw_good_of (tb_ok 938 (by decide +kernel)) rfl)⟩, fun _ h => absurd h List.not_mem_nil⟩
def kd_X6_setRow_11 (g : Nat → Nat → Int32 → cM → Option (cM)) : cKf (cM) := fun vs st M => (lR vs 0).bind fun x0 => (lR vs 1).bind fun x1 => (lI vs 3).bind fun x3 => match st with
  | [] => g x0 x1 x3 M
  | _ => none
theorem kf_X6_setRow_11 {X : cCtx} {o : cO} {r : cM} {g : Nat → Nat → Int32 → cM → Option (cM)} (hg : ∀ x0 x1 x3 M, g x0 x1 x3 M = some r → WX X 4 o 11 [some (.ref x0), some (.ref x1), none, some (.int x3)] [] M) : ∀ vs st M, kd_X6_setRow_11 g vs st M = some r → WX X 4 o 11 vs st M := by
  intro vs st M h
  unfold kd_X6_setRow_11 at h
  obtain ⟨x0, h0, h⟩ := Option.bind_eq_some_iff.mp h
  obtain ⟨x1, h1, h⟩ := Option.bind_eq_some_iff.mp h
  obtain ⟨x3, h3, h⟩ := Option.bind_eq_some_iff.mp h
  split at h
  · exact WX_weak (hg _ _ _ _ h) rfl ⟨lR_of h0, lR_of h1, lI_of h3, trivial⟩
  · cases h
theorem e_X6_setRow_11 (F : Nat) (t11 : Nat → Nat → Int32 → cM → Option (cM)) (x0 : Nat) (x1 : Nat) (x3 : Int32) (M : cM) : b_X6_setRow_11 F t11 x0 x1 x3 M = run T_X6_setRow P_RX6 false 5 (naL na_X6_setRow) (caL (ca_X6_setRow F)) (lkN th_X6_setRow) (lkN sw_X6_setRow) krV kxN (spL [11]) (KL [(11, kd_X6_setRow_11 t11)]) 28 11 [some (.ref x0), some (.ref x1), none, some (.int x3)] [] M := rfl
theorem ok_X6_setRow_11 {X : cCtx} {D : Nat} {r : cM} (G : FX X 4 (eV r) cX6_setRow RX6 5 D) {F : Nat} (hca : ∀ x ∈ (ca_X6_setRow (R' := cM) F), 1 ≤ D ∧ ceS X.1 RX6 (D - 1) x.1 x.2) (n : Nat) : ∀ x0 x1 x3 M, f_X6_setRow_11 F n x0 x1 x3 M = some r → WX X 4 (eV r) 11 [some (.ref x0), some (.ref x1), none, some (.int x3)] [] M := by
  induction n with
  | zero => intro x0 x1 x3 M h; cases h
  | succ n ih =>
    intro x0 x1 x3 M h
    exact seg_ok G P_RX6_ok T_X6_setRow_ok hca (fun _ h => absurd h List.not_mem_nil) sw_X6_setRow_ok krV_ok (kxN_ok (f := eV)) (List.forall_mem_cons.mpr ⟨kf_X6_setRow_11 (ih), fun _ h => absurd h List.not_mem_nil⟩) ((e_X6_setRow_11 F (f_X6_setRow_11 F n) x0 x1 x3 M).symm.trans h)
theorem e_X6_setRow_0 (F : Nat) (t11 : Nat → Nat → Int32 → cM → Option (cM)) (x0 : Nat) (x1 : Nat) (x2 : Int32) (M : cM) : b_X6_setRow_0 F t11 x0 x1 x2 M = run T_X6_setRow P_RX6 false 5 (naL na_X6_setRow) (caL (ca_X6_setRow F)) (lkN th_X6_setRow) (lkN sw_X6_setRow) krV kxN (spL [11]) (KL [(11, kd_X6_setRow_11 t11)]) 28 0 [some (.ref x0), some (.ref x1), some (.int x2), none] [] M := rfl
theorem ok_X6_setRow_0 {X : cCtx} {D : Nat} {r : cM} (G : FX X 4 (eV r) cX6_setRow RX6 5 D) {F : Nat} (hca : ∀ x ∈ (ca_X6_setRow (R' := cM) F), 1 ≤ D ∧ ceS X.1 RX6 (D - 1) x.1 x.2) : ∀ x0 x1 x2 M, f_X6_setRow_0 F x0 x1 x2 M = some r → WX X 4 (eV r) 0 [some (.ref x0), some (.ref x1), some (.int x2), none] [] M := by
  intro x0 x1 x2 M h
  exact seg_ok G P_RX6_ok T_X6_setRow_ok hca (fun _ h => absurd h List.not_mem_nil) sw_X6_setRow_ok krV_ok (kxN_ok (f := eV)) (List.forall_mem_cons.mpr ⟨kf_X6_setRow_11 (ok_X6_setRow_11 G hca F), fun _ h => absurd h List.not_mem_nil⟩) ((e_X6_setRow_0 F (f_X6_setRow_11 F F) x0 x1 x2 M).symm.trans h)
theorem c_X6_setRow {q : cL} (hst : q.1.stackTraces = false) {D : Nat} (hD : 1 ≤ D) (F : Nat) (a0 : Nat) (a1 : Nat) (a2 : Int32) (M : cM) (r : cM) (h : f_X6_setRow F a0 a1 a2 M = some r) : CTx q yX6_setRow (.code yX6_setRow cX6_setRow 4 none) D [.ref a0, .ref a1, .int a2] M (eV r) ∧ ∃ fs, M[a0]? = some (.inr (5, fs)) := by
  unfold f_X6_setRow at h
  split at h
  · next hi => exact ⟨CTx_of (own := RX6) (rk := 5) hst (by decide +kernel) rfl (rfl) (Nat.le_of_ble_eq_true rfl) (fun X hX G => by subst hX; exact ok_X6_setRow_0 G (ca_X6_setRow_ok hst hD F) a0 a1 a2 M h), isC_of hi⟩
  · cases h
def n_X6_setRow {R' : Type} (f : Nat → Nat → Int32 → cM → Option (cM)) : cFn R' := fun as M κ κx => match as with
  | [.ref a0, .ref a1, .int a2] => (f a0 a1 a2 M).bind fun p => κ none p
  | _ => none
theorem w_X6_setRow : ∀ w ∈ [Cond.instanceMethod yX6_setRow, .selects yX6_setRow.cls yX6_setRow yX6_setRow, .initialized yX6_setRow.cls, .code yX6_setRow cX6_setRow 4 none], w ∈ lw_good := List.forall_mem_cons.mpr ⟨lw_good_of (tb_ok 935 (by decide +kernel)) rfl, List.forall_mem_cons.mpr ⟨lw_good_of (tb_ok 936 (by decide +kernel)) rfl, List.forall_mem_cons.mpr ⟨lw_good_of (tb_ok 5 (by decide +kernel)) rfl, List.forall_mem_cons.mpr ⟨lw_good_of (tb_ok 937 (by decide +kernel)) rfl, fun _ h => absurd h List.not_mem_nil⟩⟩⟩⟩
theorem n_X6_setRow_ok {R' : Type} {q : cL} {own : String} {d k : Nat} {f : Nat → Nat → Int32 → cM → Option (cM)} (hl : Cond.methodLink own k yX6_setRow ∈ lw_good) (hf : ∀ a0 a1 a2 M r, f a0 a1 a2 M = some r → CTx q yX6_setRow (.code yX6_setRow cX6_setRow 4 none) d [.ref a0, .ref a1, .int a2] M (eV r) ∧ ∃ fs, M[a0]? = some (.inr (5, fs))) : ceS q own d (3 * k + 1) (n_X6_setRow (R' := R') f) := by
  intro as M κ κx r h
  unfold n_X6_setRow at h
  split at h
  · obtain ⟨p, h1, h2⟩ := Option.bind_eq_some_iff.mp h
    obtain ⟨hc, fs, ha⟩ := hf _ _ _ _ _ h1
    exact ⟨eV p, fun _ => h2, fun hne => absurd rfl hne, Or.inr (Or.inl ⟨yX6_setRow, cX6_setRow, 4, none, k, 2, _, _, 5, TX6, 2, fs, rfl, rfl, hc, ha, rfl, List.forall_mem_cons.mpr ⟨hl, w_X6_setRow⟩, ⟨rfl, by decide +kernel, by decide +kernel, by decide +kernel⟩, rfl, by decide⟩)⟩
  · cases h
def n_X2_walkConsts {R' : Type} (f : Nat → Int32 → Int32 → Int32 → cM → Option (cM)) : cFn R' := fun as M κ κx => match as with
  | [.ref a0, .int a1, .int a2, .int a3] => (f a0 a1 a2 a3 M).bind fun p => κ none p
  | _ => none
theorem w_X2_walkConsts : ∀ w ∈ [Cond.instanceMethod yX2_walkConsts, .selects yX2_walkConsts.cls yX2_walkConsts yX2_walkConsts, .initialized yX2_walkConsts.cls, .code yX2_walkConsts cX2_walkConsts 7 none], w ∈ lw_good := List.forall_mem_cons.mpr ⟨lw_good_of (tb_ok 941 (by decide +kernel)) rfl, List.forall_mem_cons.mpr ⟨lw_good_of (ts_ok 26 (by decide +kernel)) rfl, List.forall_mem_cons.mpr ⟨lw_good_of (tb_ok 8 (by decide +kernel)) rfl, List.forall_mem_cons.mpr ⟨lw_good_of (tb_ok 942 (by decide +kernel)) rfl, fun _ h => absurd h List.not_mem_nil⟩⟩⟩⟩
theorem n_X2_walkConsts_ok {R' : Type} {q : cL} {own : String} {d k : Nat} {f : Nat → Int32 → Int32 → Int32 → cM → Option (cM)} (hl : Cond.methodLink own k yX2_walkConsts ∈ lw_good) (hf : ∀ a0 a1 a2 a3 M r, f a0 a1 a2 a3 M = some r → CTx q yX2_walkConsts (.code yX2_walkConsts cX2_walkConsts 7 none) d [.ref a0, .int a1, .int a2, .int a3] M (eV r) ∧ ∃ fs, M[a0]? = some (.inr (1, fs))) : ceS q own d (3 * k + 1) (n_X2_walkConsts (R' := R') f) := by
  intro as M κ κx r h
  unfold n_X2_walkConsts at h
  split at h
  · obtain ⟨p, h1, h2⟩ := Option.bind_eq_some_iff.mp h
    obtain ⟨hc, fs, ha⟩ := hf _ _ _ _ _ _ h1
    exact ⟨eV p, fun _ => h2, fun hne => absurd rfl hne, Or.inr (Or.inl ⟨yX2_walkConsts, cX2_walkConsts, 7, none, k, 3, _, _, 1, TX2, 14, fs, rfl, rfl, hc, ha, rfl, List.forall_mem_cons.mpr ⟨hl, w_X2_walkConsts⟩, ⟨rfl, by decide +kernel, by decide +kernel, by decide +kernel⟩, rfl, by decide⟩)⟩
  · cases h
def n_X2_walk {R' : Type} (f : Nat → Int32 → Int32 → Int32 → cM → Option (cM)) : cFn R' := fun as M κ κx => match as with
  | [.ref a0, .int a1, .int a2, .int a3] => (f a0 a1 a2 a3 M).bind fun p => κ none p
  | _ => none
theorem w_X2_walk : ∀ w ∈ [Cond.instanceMethod yX2_walk, .selects yX2_walk.cls yX2_walk yX2_walk, .initialized yX2_walk.cls, .code yX2_walk cX2_walk 6 none], w ∈ lw_good := List.forall_mem_cons.mpr ⟨lw_good_of (tb_ok 904 (by decide +kernel)) rfl, List.forall_mem_cons.mpr ⟨lw_good_of (ts_ok 19 (by decide +kernel)) rfl, List.forall_mem_cons.mpr ⟨lw_good_of (tb_ok 8 (by decide +kernel)) rfl, List.forall_mem_cons.mpr ⟨lw_good_of (tb_ok 905 (by decide +kernel)) rfl, fun _ h => absurd h List.not_mem_nil⟩⟩⟩⟩
theorem n_X2_walk_ok {R' : Type} {q : cL} {own : String} {d k : Nat} {f : Nat → Int32 → Int32 → Int32 → cM → Option (cM)} (hl : Cond.methodLink own k yX2_walk ∈ lw_good) (hf : ∀ a0 a1 a2 a3 M r, f a0 a1 a2 a3 M = some r → CTx q yX2_walk (.code yX2_walk cX2_walk 6 none) d [.ref a0, .int a1, .int a2, .int a3] M (eV r) ∧ ∃ fs, M[a0]? = some (.inr (1, fs))) : ceS q own d (3 * k + 1) (n_X2_walk (R' := R') f) := by
  intro as M κ κx r h
  unfold n_X2_walk at h
  split at h
  · obtain ⟨p, h1, h2⟩ := Option.bind_eq_some_iff.mp h
    obtain ⟨hc, fs, ha⟩ := hf _ _ _ _ _ _ h1
    exact ⟨eV p, fun _ => h2, fun hne => absurd rfl hne, Or.inr (Or.inl ⟨yX2_walk, cX2_walk, 6, none, k, 3, _, _, 1, TX2, 14, fs, rfl, rfl, hc, ha, rfl, List.forall_mem_cons.mpr ⟨hl, w_X2_walk⟩, ⟨rfl, by decide +kernel, by decide +kernel, by decide +kernel⟩, rfl, by decide⟩)⟩
  · cases h
-- PatchbayScript$Finder.walkConsts(III)V
def T_X2_walkConsts : List cRow := [(0, .iconst 0, 1, 0), (1, .istore 4, 3, 0), (3, .iconst 1, 4, 0), (4, .istore 5, 6, 0), (6, .iload 5, 8, 0), (8, .iconst 4, 9, 0), (9, .if_icmp .gt 89, 12, 98), (12, .aload_n 0, 13, 0), (13, .getfield 102, 16, 0), (16, .iconst 5, 17, 0), (17, .if_icmp .ge 81, 20, 98), (20, .aload_n 0, 21, 0), (21, .iload_n 2, 22, 0), (22, .iload 5, 24, 0), (24, .invokevirtual 194, 27, 0), (27, .istore 6, 29, 0), (29, .iload 6, 31, 0), (31, .ifCond .ne 4, 34, 35), (34, .return_, 35, 0), (35, .iload 4, 37, 0), (37, .iload 5, 39, 0), (39, .iconst 1, 40, 0), (40, .isub, 41, 0), (41, .iload 6, 43, 0), (43, .invokestatic 153, 46, 0), (46, .istore 4, 48, 0), (48, .aload_n 0, 49, 0), (49, .getfield 30, 52, 0), (52, .iload_n 2, 53, 0), (53, .iaload, 54, 0), (54, .iconst (-1), 55, 0), (55, .if_icmp .eq 14, 58, 69), (58, .aload_n 0, 59, 0), (59, .getfield 30, 62, 0), (62, .iload_n 2, 63, 0), (63, .iaload, 64, 0), (64, .iload 4, 66, 0), (66, .if_icmp .ne 26, 69, 92), (69, .aload_n 0, 70, 0), (70, .getfield 50, 73, 0), (73, .iload_n 2, 74, 0), (74, .iload 4, 76, 0), (76, .iastore, 77, 0), (77, .aload_n 0, 78, 0), (78, .iload_n 1, 79, 0), (79, .iload_n 2, 80, 0), (80, .iconst 1, 81, 0), (81, .iadd, 82, 0), (82, .iload_n 3, 83, 0), (83, .iload 5, 85, 0), (85, .invokestatic 157, 88, 0), (88, .isub, 89, 0), (89, .invokevirtual 105, 92, 0), (92, .iinc 5 1, 95, 0), (95, .goto (-89), 98, 6), (98, .return_, 99, 0)]
theorem T_X2_walkConsts_ok : T_X2_walkConsts.all (rowB cX2_walkConsts) = true := by decide +kernel
def th_X2_walkConsts : List (Nat × Nat) := []
def sw_X2_walkConsts : List (Nat × (List (Int32 × Nat) × Nat)) := []
theorem sw_X2_walkConsts_ok : ∀ q ∈ sw_X2_walkConsts, swS cX2_walkConsts q := fun _ h => absurd h List.not_mem_nil
def na_X2_walkConsts : List (Nat × Nat) := [(583, 3), (459, 3), (471, 1), (316, 4)]
def ca_X2_walkConsts {R' : Type} (F : Nat) (g_X2_walk : Nat → Int32 → Int32 → Int32 → cM → Option (cM)) : List (Nat × cFn R') := [(583, n_X2_stepOverSign (f_X2_stepOverSign F)), (459, n_X0_withSign (f_X0_withSign F)), (471, n_X0_weightOfConst (f_X0_weightOfConst F)), (316, n_X2_walk (g_X2_walk))]
theorem ca_X2_walkConsts_ok {R' : Type} {q : cL} (hst : q.1.stackTraces = false) {D : Nat} (hD : 2 ≤ D) (F : Nat) (g_X2_walk : Nat → Int32 → Int32 → Int32 → cM → Option (cM)) (h_X2_walk : ∀ a0 a1 a2 a3 M r, g_X2_walk a0 a1 a2 a3 M = some r → CTx q yX2_walk (.code yX2_walk cX2_walk 6 none) (D - 1) [.ref a0, .int a1, .int a2, .int a3] M (eV r) ∧ ∃ fs, M[a0]? = some (.inr (1, fs))) : ∀ x ∈ (ca_X2_walkConsts (R' := R') F g_X2_walk), 1 ≤ D ∧ ceS q RX2 (D - 1) x.1 x.2 := List.forall_mem_cons.mpr ⟨⟨by omega, n_X2_stepOverSign_ok (k := 194) (lw_good_of (tb_ok 922 (by decide +kernel)) rfl) (fun a0 a1 a2 M r h => c_X2_stepOverSign hst (by omega) F a0 a1 a2 M r h)⟩, List.forall_mem_cons.mpr ⟨⟨by omega, n_X0_withSign_ok (k := 153) (lw_good_of (tb_ok 892 (by decide +kernel)) rfl) (fun a0 a1 a2 M r h => c_X0_withSign hst (by omega) F a0 a1 a2 M r h)⟩, List.forall_mem_cons.mpr ⟨⟨by omega, n_X0_weightOfConst_ok (k := 157) (lw_good_of (tb_ok 893 (by decide +kernel)) rfl) (fun a0 M r h => c_X0_weightOfConst hst (by omega) F a0 M r h)⟩, List.forall_mem_cons.mpr ⟨⟨by omega, n_X2_walk_ok (k := 105) (lw_good_of (tb_ok 902 (by decide +kernel)) rfl) (h_X2_walk)⟩, fun _ h => absurd h List.not_mem_nil⟩⟩⟩⟩
def kd_X2_walkConsts_6 (g : Nat → Int32 → Int32 → Int32 → Int32 → Int32 → cM → Option (cM)) : cKf (cM) := fun vs st M => (lR vs 0).bind fun x0 => (lI vs 1).bind fun x1 => (lI vs 2).bind fun x2 => (lI vs 3).bind fun x3 => (lI vs 4).bind fun x4 => (lI vs 5).bind fun x5 => match st with
  | [] => g x0 x1 x2 x3 x4 x5 M
  | _ => none
theorem kf_X2_walkConsts_6 {X : cCtx} {o : cO} {r : cM} {g : Nat → Int32 → Int32 → Int32 → Int32 → Int32 → cM → Option (cM)} (hg : ∀ x0 x1 x2 x3 x4 x5 M, g x0 x1 x2 x3 x4 x5 M = some r → WX X 7 o 6 [some (.ref x0), some (.int x1), some (.int x2), some (.int x3), some (.int x4), some (.int x5), none] [] M) : ∀ vs st M, kd_X2_walkConsts_6 g vs st M = some r → WX X 7 o 6 vs st M := by
  intro vs st M h
  unfold kd_X2_walkConsts_6 at h
  obtain ⟨x0, h0, h⟩ := Option.bind_eq_some_iff.mp h
  obtain ⟨x1, h1, h⟩ := Option.bind_eq_some_iff.mp h
  obtain ⟨x2, h2, h⟩ := Option.bind_eq_some_iff.mp h
  obtain ⟨x3, h3, h⟩ := Option.bind_eq_some_iff.mp h
  obtain ⟨x4, h4, h⟩ := Option.bind_eq_some_iff.mp h
  obtain ⟨x5, h5, h⟩ := Option.bind_eq_some_iff.mp h
  split at h
  · exact WX_weak (hg _ _ _ _ _ _ _ h) rfl ⟨lR_of h0, lI_of h1, lI_of h2, lI_of h3, lI_of h4, lI_of h5, trivial⟩
  · cases h
def kd_X2_walkConsts_69 (g : Nat → Int32 → Int32 → Int32 → Int32 → Int32 → cM → Option (cM)) : cKf (cM) := fun vs st M => (lR vs 0).bind fun x0 => (lI vs 1).bind fun x1 => (lI vs 2).bind fun x2 => (lI vs 3).bind fun x3 => (lI vs 4).bind fun x4 => (lI vs 5).bind fun x5 => match st with
  | [] => g x0 x1 x2 x3 x4 x5 M
  | _ => none
theorem kf_X2_walkConsts_69 {X : cCtx} {o : cO} {r : cM} {g : Nat → Int32 → Int32 → Int32 → Int32 → Int32 → cM → Option (cM)} (hg : ∀ x0 x1 x2 x3 x4 x5 M, g x0 x1 x2 x3 x4 x5 M = some r → WX X 7 o 69 [some (.ref x0), some (.int x1), some (.int x2), some (.int x3), some (.int x4), some (.int x5), none] [] M) : ∀ vs st M, kd_X2_walkConsts_69 g vs st M = some r → WX X 7 o 69 vs st M := by
  intro vs st M h
  unfold kd_X2_walkConsts_69 at h
  obtain ⟨x0, h0, h⟩ := Option.bind_eq_some_iff.mp h
  obtain ⟨x1, h1, h⟩ := Option.bind_eq_some_iff.mp h
  obtain ⟨x2, h2, h⟩ := Option.bind_eq_some_iff.mp h
  obtain ⟨x3, h3, h⟩ := Option.bind_eq_some_iff.mp h
  obtain ⟨x4, h4, h⟩ := Option.bind_eq_some_iff.mp h
  obtain ⟨x5, h5, h⟩ := Option.bind_eq_some_iff.mp h
  split at h
  · exact WX_weak (hg _ _ _ _ _ _ _ h) rfl ⟨lR_of h0, lI_of h1, lI_of h2, lI_of h3, lI_of h4, lI_of h5, trivial⟩
  · cases h
theorem e_X2_walkConsts_69 (F : Nat) (g_X2_walk : Nat → Int32 → Int32 → Int32 → cM → Option (cM)) (t6 : Nat → Int32 → Int32 → Int32 → Int32 → Int32 → cM → Option (cM)) (x0 : Nat) (x1 : Int32) (x2 : Int32) (x3 : Int32) (x4 : Int32) (x5 : Int32) (M : cM) : b_X2_walkConsts_69 F g_X2_walk t6 x0 x1 x2 x3 x4 x5 M = run T_X2_walkConsts P_RX2 false 5 (naL na_X2_walkConsts) (caL (ca_X2_walkConsts F g_X2_walk)) (lkN th_X2_walkConsts) (lkN sw_X2_walkConsts) krV kxN (spL [6]) (KL [(6, kd_X2_walkConsts_6 t6)]) 59 69 [some (.ref x0), some (.int x1), some (.int x2), some (.int x3), some (.int x4), some (.int x5), none] [] M := rfl
theorem ok_X2_walkConsts_69 {X : cCtx} {D : Nat} {r : cM} (G : FX X 7 (eV r) cX2_walkConsts RX2 5 D) {F : Nat} (g_X2_walk : Nat → Int32 → Int32 → Int32 → cM → Option (cM)) (hca : ∀ x ∈ (ca_X2_walkConsts (R' := cM) F g_X2_walk), 1 ≤ D ∧ ceS X.1 RX2 (D - 1) x.1 x.2) (k6 : Nat → Int32 → Int32 → Int32 → Int32 → Int32 → cM → Option (cM)) (hk6 : ∀ x0 x1 x2 x3 x4 x5 M, k6 x0 x1 x2 x3 x4 x5 M = some r → WX X 7 (eV r) 6 [some (.ref x0), some (.int x1), some (.int x2), some (.int x3), some (.int x4), some (.int x5), none] [] M) : ∀ x0 x1 x2 x3 x4 x5 M, f_X2_walkConsts_69 F g_X2_walk k6 x0 x1 x2 x3 x4 x5 M = some r → WX X 7 (eV r) 69 [some (.ref x0), some (.int x1), some (.int x2), some (.int x3), some (.int x4), some (.int x5), none] [] M := by
  intro x0 x1 x2 x3 x4 x5 M h
  exact seg_ok G P_RX2_ok T_X2_walkConsts_ok hca (fun _ h => absurd h List.not_mem_nil) sw_X2_walkConsts_ok krV_ok (kxN_ok (f := eV)) (List.forall_mem_cons.mpr ⟨kf_X2_walkConsts_6 (hk6), fun _ h => absurd h List.not_mem_nil⟩) ((e_X2_walkConsts_69 F g_X2_walk (k6) x0 x1 x2 x3 x4 x5 M).symm.trans h)
theorem e_X2_walkConsts_6 (F : Nat) (g_X2_walk : Nat → Int32 → Int32 → Int32 → cM → Option (cM)) (t6 : Nat → Int32 → Int32 → Int32 → Int32 → Int32 → cM → Option (cM)) (t69 : Nat → Int32 → Int32 → Int32 → Int32 → Int32 → cM → Option (cM)) (x0 : Nat) (x1 : Int32) (x2 : Int32) (x3 : Int32) (x4 : Int32) (x5 : Int32) (M : cM) : b_X2_walkConsts_6 F g_X2_walk t6 t69 x0 x1 x2 x3 x4 x5 M = run T_X2_walkConsts P_RX2 false 5 (naL na_X2_walkConsts) (caL (ca_X2_walkConsts F g_X2_walk)) (lkN th_X2_walkConsts) (lkN sw_X2_walkConsts) krV kxN (spL [6, 69]) (KL [(6, kd_X2_walkConsts_6 t6), (69, kd_X2_walkConsts_69 t69)]) 59 6 [some (.ref x0), some (.int x1), some (.int x2), some (.int x3), some (.int x4), some (.int x5), none] [] M := rfl
theorem ok_X2_walkConsts_6 {X : cCtx} {D : Nat} {r : cM} (G : FX X 7 (eV r) cX2_walkConsts RX2 5 D) {F : Nat} (g_X2_walk : Nat → Int32 → Int32 → Int32 → cM → Option (cM)) (hca : ∀ x ∈ (ca_X2_walkConsts (R' := cM) F g_X2_walk), 1 ≤ D ∧ ceS X.1 RX2 (D - 1) x.1 x.2) (n : Nat) : ∀ x0 x1 x2 x3 x4 x5 M, f_X2_walkConsts_6 F g_X2_walk n x0 x1 x2 x3 x4 x5 M = some r → WX X 7 (eV r) 6 [some (.ref x0), some (.int x1), some (.int x2), some (.int x3), some (.int x4), some (.int x5), none] [] M := by
  induction n with
  | zero => intro x0 x1 x2 x3 x4 x5 M h; cases h
  | succ n ih =>
    intro x0 x1 x2 x3 x4 x5 M h
    exact seg_ok G P_RX2_ok T_X2_walkConsts_ok hca (fun _ h => absurd h List.not_mem_nil) sw_X2_walkConsts_ok krV_ok (kxN_ok (f := eV)) (List.forall_mem_cons.mpr ⟨kf_X2_walkConsts_6 (ih), List.forall_mem_cons.mpr ⟨kf_X2_walkConsts_69 (ok_X2_walkConsts_69 G g_X2_walk hca (f_X2_walkConsts_6 F g_X2_walk n) ih), fun _ h => absurd h List.not_mem_nil⟩⟩) ((e_X2_walkConsts_6 F g_X2_walk (f_X2_walkConsts_6 F g_X2_walk n) (f_X2_walkConsts_69 F g_X2_walk (f_X2_walkConsts_6 F g_X2_walk n)) x0 x1 x2 x3 x4 x5 M).symm.trans h)
theorem e_X2_walkConsts_0 (F : Nat) (g_X2_walk : Nat → Int32 → Int32 → Int32 → cM → Option (cM)) (t6 : Nat → Int32 → Int32 → Int32 → Int32 → Int32 → cM → Option (cM)) (x0 : Nat) (x1 : Int32) (x2 : Int32) (x3 : Int32) (M : cM) : b_X2_walkConsts_0 F g_X2_walk t6 x0 x1 x2 x3 M = run T_X2_walkConsts P_RX2 false 5 (naL na_X2_walkConsts) (caL (ca_X2_walkConsts F g_X2_walk)) (lkN th_X2_walkConsts) (lkN sw_X2_walkConsts) krV kxN (spL [6]) (KL [(6, kd_X2_walkConsts_6 t6)]) 59 0 [some (.ref x0), some (.int x1), some (.int x2), some (.int x3), none, none, none] [] M := rfl
theorem ok_X2_walkConsts_0 {X : cCtx} {D : Nat} {r : cM} (G : FX X 7 (eV r) cX2_walkConsts RX2 5 D) {F : Nat} (g_X2_walk : Nat → Int32 → Int32 → Int32 → cM → Option (cM)) (hca : ∀ x ∈ (ca_X2_walkConsts (R' := cM) F g_X2_walk), 1 ≤ D ∧ ceS X.1 RX2 (D - 1) x.1 x.2) : ∀ x0 x1 x2 x3 M, f_X2_walkConsts_0 F g_X2_walk x0 x1 x2 x3 M = some r → WX X 7 (eV r) 0 [some (.ref x0), some (.int x1), some (.int x2), some (.int x3), none, none, none] [] M := by
  intro x0 x1 x2 x3 M h
  exact seg_ok G P_RX2_ok T_X2_walkConsts_ok hca (fun _ h => absurd h List.not_mem_nil) sw_X2_walkConsts_ok krV_ok (kxN_ok (f := eV)) (List.forall_mem_cons.mpr ⟨kf_X2_walkConsts_6 (ok_X2_walkConsts_6 G g_X2_walk hca F), fun _ h => absurd h List.not_mem_nil⟩) ((e_X2_walkConsts_0 F g_X2_walk (f_X2_walkConsts_6 F g_X2_walk F) x0 x1 x2 x3 M).symm.trans h)
theorem c_X2_walkConsts {q : cL} (hst : q.1.stackTraces = false) {D : Nat} (hD : 2 ≤ D) (F : Nat) (g_X2_walk : Nat → Int32 → Int32 → Int32 → cM → Option (cM)) (h_X2_walk : ∀ a0 a1 a2 a3 M r, g_X2_walk a0 a1 a2 a3 M = some r → CTx q yX2_walk (.code yX2_walk cX2_walk 6 none) (D - 1) [.ref a0, .int a1, .int a2, .int a3] M (eV r) ∧ ∃ fs, M[a0]? = some (.inr (1, fs))) (a0 : Nat) (a1 : Int32) (a2 : Int32) (a3 : Int32) (M : cM) (r : cM) (h : f_X2_walkConsts F g_X2_walk a0 a1 a2 a3 M = some r) : CTx q yX2_walkConsts (.code yX2_walkConsts cX2_walkConsts 7 none) D [.ref a0, .int a1, .int a2, .int a3] M (eV r) ∧ ∃ fs, M[a0]? = some (.inr (1, fs)) := by
  unfold f_X2_walkConsts at h
  split at h
  · next hi => exact ⟨CTx_of (own := RX2) (rk := 5) hst (by decide +kernel) rfl (rfl) (Nat.le_of_ble_eq_true rfl) (fun X hX G => by subst hX; exact ok_X2_walkConsts_0 G g_X2_walk (ca_X2_walkConsts_ok hst hD F g_X2_walk h_X2_walk) a0 a1 a2 a3 M h), isC_of hi⟩
  · cases h
-- PatchbayScript$Finder.walk(III)V
def T_X2_walk : List cRow := [(0, .iload_n 3, 1, 0), (1, .iload_n 1, 2, 0), (2, .iload_n 2, 3, 0), (3, .isub, 4, 0), (4, .iconst 4, 5, 0), (5, .imul, 6, 0), (6, .isub, 7, 0), (7, .istore 4, 9, 0), (9, .aload_n 0, 10, 0), (10, .getfield 102, 13, 0), (13, .iconst 5, 14, 0), (14, .if_icmp .ge 15, 17, 29), (17, .iload 4, 19, 0), (19, .ifCond .lt 10, 22, 29), (22, .iload 4, 24, 0), (24, .bipush 48, 26, 0), (26, .if_icmp .le 4, 29, 30), (29, .return_, 30, 0), (30, .aload_n 0, 31, 0), (31, .iload_n 1, 32, 0), (32, .iload_n 2, 33, 0), (33, .lconst 1, 34, 0), (34, .iload 4, 36, 0), (36, .lshl, 37, 0), (37, .invokevirtual 198, 40, 0), (40, .iload 4, 42, 0), (42, .lshr, 43, 0), (43, .lconst 1, 44, 0), (44, .land, 45, 0), (45, .lconst 0, 46, 0), (46, .lcmp, 47, 0), (47, .ifCond .ne 4, 50, 51), (50, .return_, 51, 0), (51, .iload_n 2, 52, 0), (52, .iload_n 1, 53, 0), (53, .if_icmp .ge 8, 56, 61), (56, .iload_n 2, 57, 0), (57, .iconst 4, 58, 0), (58, .if_icmp .lt 31, 61, 89), (61, .aload_n 0, 62, 0), (62, .getfield 19, 65, 0), (65, .aload_n 0, 66, 0), (66, .getfield 102, 69, 0), (69, .aaload, 70, 0), (70, .aload_n 0, 71, 0), (71, .getfield 50, 74, 0), (74, .iload_n 1, 75, 0), (75, .invokevirtual 205, 78, 0), (78, .aload_n 0, 79, 0), (79, .dup, 80, 0), (80, .getfield 102, 83, 0), (83, .iconst 1, 84, 0), (84, .iadd, 85, 0), (85, .putfield 102, 88, 0), (88, .return_, 89, 0), (89, .aload_n 0, 90, 0), (90, .iload_n 1, 91, 0), (91, .iload_n 2, 92, 0), (92, .iload_n 3, 93, 0), (93, .invokevirtual 209, 96, 0), (96, .iconst 0, 97, 0), (97, .istore 5, 99, 0), (99, .iload 5, 101, 0), (101, .aload_n 0, 102, 0), (102, .getfield 26, 105, 0), (105, .getfield 212, 108, 0), (108, .if_icmp .ge 92, 111, 200), (111, .aload_n 0, 112, 0), (112, .getfield 102, 115, 0), (115, .iconst 5, 116, 0), (116, .if_icmp .ge 84, 119, 200), (119, .aload_n 0, 120, 0), (120, .getfield 30, 123, 0), (123, .iload_n 2, 124, 0), (124, .iaload, 125, 0), (125, .iconst (-1), 126, 0), (126, .if_icmp .eq 22, 129, 148), (129, .aload_n 0, 130, 0), (130, .getfield 30, 133, 0), (133, .iload_n 2, 134, 0), (134, .iaload, 135, 0), (135, .aload_n 0, 136, 0), (136, .getfield 26, 139, 0), (139, .getfield 215, 142, 0), (142, .iload 5, 144, 0), (144, .iaload, 145, 0), (145, .if_icmp .ne 49, 148, 194), (148, .aload_n 0, 149, 0), (149, .iload 5, 151, 0), (151, .iload_n 2, 152, 0), (152, .invokevirtual 201, 155, 0), (155, .ifCond .eq 39, 158, 194), (158, .aload_n 0, 159, 0), (159, .getfield 50, 162, 0), (162, .iload_n 2, 163, 0), (163, .aload_n 0, 164, 0), (164, .getfield 26, 167, 0), (167, .getfield 215, 170, 0), (170, .iload 5, 172, 0), (172, .iaload, 173, 0), (173, .iastore, 174, 0), (174, .aload_n 0, 175, 0), (175, .iload_n 1, 176, 0), (176, .iload_n 2, 177, 0), (177, .iconst 1, 178, 0), (178, .iadd, 179, 0), (179, .iload_n 3, 180, 0), (180, .aload_n 0, 181, 0), (181, .getfield 26, 184, 0), (184, .getfield 132, 187, 0), (187, .iload 5, 189, 0), (189, .iaload, 190, 0), (190, .isub, 191, 0), (191, .invokevirtual 105, 194, 0), (194, .iinc 5 1, 197, 0), (197, .goto (-98), 200, 99), (200, .return_, 201, 0)]
theorem T_X2_walk_ok : T_X2_walk.all (rowB cX2_walk) = true := by decide +kernel
def th_X2_walk : List (Nat × Nat) := []
def sw_X2_walk : List (Nat × (List (Int32 × Nat) × Nat)) := []
theorem sw_X2_walk_ok : ∀ q ∈ sw_X2_walk, swS cX2_walk q := fun _ h => absurd h List.not_mem_nil
def na_X2_walk : List (Nat × Nat) := [(595, 4), (616, 3), (628, 4), (604, 3), (316, 4)]
def ca_X2_walk {R' : Type} (F : Nat) (g_X2_walkConsts : Nat → Int32 → Int32 → Int32 → cM → Option (cM)) (g_X2_walk : Nat → Int32 → Int32 → Int32 → cM → Option (cM)) : List (Nat × cFn R') := [(595, n_X2_endings (r_X2_endings F 8)), (616, n_X6_setRow (f_X6_setRow F)), (628, n_X2_walkConsts (g_X2_walkConsts)), (604, n_X2_stepsOver (f_X2_stepsOver F)), (316, n_X2_walk (g_X2_walk))]
theorem ca_X2_walk_ok {R' : Type} {q : cL} (hst : q.1.stackTraces = false) {D : Nat} (hD : 29 ≤ D) (F : Nat) (g_X2_walkConsts : Nat → Int32 → Int32 → Int32 → cM → Option (cM)) (g_X2_walk : Nat → Int32 → Int32 → Int32 → cM → Option (cM)) (h_X2_walkConsts : ∀ a0 a1 a2 a3 M r, g_X2_walkConsts a0 a1 a2 a3 M = some r → CTx q yX2_walkConsts (.code yX2_walkConsts cX2_walkConsts 7 none) (D - 1) [.ref a0, .int a1, .int a2, .int a3] M (eV r) ∧ ∃ fs, M[a0]? = some (.inr (1, fs))) (h_X2_walk : ∀ a0 a1 a2 a3 M r, g_X2_walk a0 a1 a2 a3 M = some r → CTx q yX2_walk (.code yX2_walk cX2_walk 6 none) (D - 1) [.ref a0, .int a1, .int a2, .int a3] M (eV r) ∧ ∃ fs, M[a0]? = some (.inr (1, fs))) : ∀ x ∈ (ca_X2_walk (R' := R') F g_X2_walkConsts g_X2_walk), 1 ≤ D ∧ ceS q RX2 (D - 1) x.1 x.2 := List.forall_mem_cons.mpr ⟨⟨by omega, n_X2_endings_ok (k := 198) (lw_good_of (tb_ok 906 (by decide +kernel)) rfl) (fun a0 a1 a2 a3 M r h => cr_X2_endings hst F 8 (D - 1) (by omega) a0 a1 a2 a3 M r h)⟩, List.forall_mem_cons.mpr ⟨⟨by omega, n_X6_setRow_ok (k := 205) (lw_good_of (tb_ok 934 (by decide +kernel)) rfl) (fun a0 a1 a2 M r h => c_X6_setRow hst (by omega) F a0 a1 a2 M r h)⟩, List.forall_mem_cons.mpr ⟨⟨by omega, n_X2_walkConsts_ok (k := 209) (lw_good_of (tb_ok 939 (by decide +kernel)) rfl) (h_X2_walkConsts)⟩, List.forall_mem_cons.mpr ⟨⟨by omega, n_X2_stepsOver_ok (k := 201) (lw_good_of (tb_ok 930 (by decide +kernel)) rfl) (fun a0 a1 a2 M r h => c_X2_stepsOver hst (by omega) F a0 a1 a2 M r h)⟩, List.forall_mem_cons.mpr ⟨⟨by omega, n_X2_walk_ok (k := 105) (lw_good_of (tb_ok 902 (by decide +kernel)) rfl) (h_X2_walk)⟩, fun _ h => absurd h List.not_mem_nil⟩⟩⟩⟩⟩
def kd_X2_walk_30 (g : Nat → Int32 → Int32 → Int32 → Int32 → cM → Option (cM)) : cKf (cM) := fun vs st M => (lR vs 0).bind fun x0 => (lI vs 1).bind fun x1 => (lI vs 2).bind fun x2 => (lI vs 3).bind fun x3 => (lI vs 4).bind fun x4 => match st with
  | [] => g x0 x1 x2 x3 x4 M
  | _ => none
theorem kf_X2_walk_30 {X : cCtx} {o : cO} {r : cM} {g : Nat → Int32 → Int32 → Int32 → Int32 → cM → Option (cM)} (hg : ∀ x0 x1 x2 x3 x4 M, g x0 x1 x2 x3 x4 M = some r → WX X 6 o 30 [some (.ref x0), some (.int x1), some (.int x2), some (.int x3), some (.int x4), none] [] M) : ∀ vs st M, kd_X2_walk_30 g vs st M = some r → WX X 6 o 30 vs st M := by
  intro vs st M h
  unfold kd_X2_walk_30 at h
  obtain ⟨x0, h0, h⟩ := Option.bind_eq_some_iff.mp h
  obtain ⟨x1, h1, h⟩ := Option.bind_eq_some_iff.mp h
  obtain ⟨x2, h2, h⟩ := Option.bind_eq_some_iff.mp h
  obtain ⟨x3, h3, h⟩ := Option.bind_eq_some_iff.mp h
  obtain ⟨x4, h4, h⟩ := Option.bind_eq_some_iff.mp h
  split at h
  · exact WX_weak (hg _ _ _ _ _ _ h) rfl ⟨lR_of h0, lI_of h1, lI_of h2, lI_of h3, lI_of h4, trivial⟩
  · cases h
def kd_X2_walk_61 (g : Nat → Int32 → cM → Option (cM)) : cKf (cM) := fun vs st M => (lR vs 0).bind fun x0 => (lI vs 1).bind fun x1 => match st with
  | [] => g x0 x1 M
  | _ => none
theorem kf_X2_walk_61 {X : cCtx} {o : cO} {r : cM} {g : Nat → Int32 → cM → Option (cM)} (hg : ∀ x0 x1 M, g x0 x1 M = some r → WX X 6 o 61 [some (.ref x0), some (.int x1), none, none, none, none] [] M) : ∀ vs st M, kd_X2_walk_61 g vs st M = some r → WX X 6 o 61 vs st M := by
  intro vs st M h
  unfold kd_X2_walk_61 at h
  obtain ⟨x0, h0, h⟩ := Option.bind_eq_some_iff.mp h
  obtain ⟨x1, h1, h⟩ := Option.bind_eq_some_iff.mp h
  split at h
  · exact WX_weak (hg _ _ _ h) rfl ⟨lR_of h0, lI_of h1, trivial⟩
  · cases h
def kd_X2_walk_99 (g : Nat → Int32 → Int32 → Int32 → Int32 → cM → Option (cM)) : cKf (cM) := fun vs st M => (lR vs 0).bind fun x0 => (lI vs 1).bind fun x1 => (lI vs 2).bind fun x2 => (lI vs 3).bind fun x3 => (lI vs 5).bind fun x5 => match st with
  | [] => g x0 x1 x2 x3 x5 M
  | _ => none
theorem kf_X2_walk_99 {X : cCtx} {o : cO} {r : cM} {g : Nat → Int32 → Int32 → Int32 → Int32 → cM → Option (cM)} (hg : ∀ x0 x1 x2 x3 x5 M, g x0 x1 x2 x3 x5 M = some r → WX X 6 o 99 [some (.ref x0), some (.int x1), some (.int x2), some (.int x3), none, some (.int x5)] [] M) : ∀ vs st M, kd_X2_walk_99 g vs st M = some r → WX X 6 o 99 vs st M := by
  intro vs st M h
  unfold kd_X2_walk_99 at h
  obtain ⟨x0, h0, h⟩ := Option.bind_eq_some_iff.mp h
  obtain ⟨x1, h1, h⟩ := Option.bind_eq_some_iff.mp h
  obtain ⟨x2, h2, h⟩ := Option.bind_eq_some_iff.mp h
  obtain ⟨x3, h3, h⟩ := Option.bind_eq_some_iff.mp h
  obtain ⟨x5, h5, h⟩ := Option.bind_eq_some_iff.mp h
  split at h
  · exact WX_weak (hg _ _ _ _ _ _ h) rfl ⟨lR_of h0, lI_of h1, lI_of h2, lI_of h3, lI_of h5, trivial⟩
  · cases h
def kd_X2_walk_148 (g : Nat → Int32 → Int32 → Int32 → Int32 → cM → Option (cM)) : cKf (cM) := fun vs st M => (lR vs 0).bind fun x0 => (lI vs 1).bind fun x1 => (lI vs 2).bind fun x2 => (lI vs 3).bind fun x3 => (lI vs 5).bind fun x5 => match st with
  | [] => g x0 x1 x2 x3 x5 M
  | _ => none
theorem kf_X2_walk_148 {X : cCtx} {o : cO} {r : cM} {g : Nat → Int32 → Int32 → Int32 → Int32 → cM → Option (cM)} (hg : ∀ x0 x1 x2 x3 x5 M, g x0 x1 x2 x3 x5 M = some r → WX X 6 o 148 [some (.ref x0), some (.int x1), some (.int x2), some (.int x3), none, some (.int x5)] [] M) : ∀ vs st M, kd_X2_walk_148 g vs st M = some r → WX X 6 o 148 vs st M := by
  intro vs st M h
  unfold kd_X2_walk_148 at h
  obtain ⟨x0, h0, h⟩ := Option.bind_eq_some_iff.mp h
  obtain ⟨x1, h1, h⟩ := Option.bind_eq_some_iff.mp h
  obtain ⟨x2, h2, h⟩ := Option.bind_eq_some_iff.mp h
  obtain ⟨x3, h3, h⟩ := Option.bind_eq_some_iff.mp h
  obtain ⟨x5, h5, h⟩ := Option.bind_eq_some_iff.mp h
  split at h
  · exact WX_weak (hg _ _ _ _ _ _ h) rfl ⟨lR_of h0, lI_of h1, lI_of h2, lI_of h3, lI_of h5, trivial⟩
  · cases h
theorem e_X2_walk_61 (F : Nat) (g_X2_walkConsts : Nat → Int32 → Int32 → Int32 → cM → Option (cM)) (g_X2_walk : Nat → Int32 → Int32 → Int32 → cM → Option (cM)) (x0 : Nat) (x1 : Int32) (M : cM) : b_X2_walk_61 F g_X2_walkConsts g_X2_walk x0 x1 M = run T_X2_walk P_RX2 false 5 (naL na_X2_walk) (caL (ca_X2_walk F g_X2_walkConsts g_X2_walk)) (lkN th_X2_walk) (lkN sw_X2_walk) krV kxN (spL []) (KL []) 120 61 [some (.ref x0), some (.int x1), none, none, none, none] [] M := rfl
theorem ok_X2_walk_61 {X : cCtx} {D : Nat} {r : cM} (G : FX X 6 (eV r) cX2_walk RX2 5 D) {F : Nat} (g_X2_walkConsts : Nat → Int32 → Int32 → Int32 → cM → Option (cM)) (g_X2_walk : Nat → Int32 → Int32 → Int32 → cM → Option (cM)) (hca : ∀ x ∈ (ca_X2_walk (R' := cM) F g_X2_walkConsts g_X2_walk), 1 ≤ D ∧ ceS X.1 RX2 (D - 1) x.1 x.2) : ∀ x0 x1 M, f_X2_walk_61 F g_X2_walkConsts g_X2_walk x0 x1 M = some r → WX X 6 (eV r) 61 [some (.ref x0), some (.int x1), none, none, none, none] [] M := by
  intro x0 x1 M h
  exact seg_ok G P_RX2_ok T_X2_walk_ok hca (fun _ h => absurd h List.not_mem_nil) sw_X2_walk_ok krV_ok (kxN_ok (f := eV)) (fun _ h => absurd h List.not_mem_nil) ((e_X2_walk_61 F g_X2_walkConsts g_X2_walk x0 x1 M).symm.trans h)
theorem e_X2_walk_148 (F : Nat) (g_X2_walkConsts : Nat → Int32 → Int32 → Int32 → cM → Option (cM)) (g_X2_walk : Nat → Int32 → Int32 → Int32 → cM → Option (cM)) (t99 : Nat → Int32 → Int32 → Int32 → Int32 → cM → Option (cM)) (x0 : Nat) (x1 : Int32) (x2 : Int32) (x3 : Int32) (x5 : Int32) (M : cM) : b_X2_walk_148 F g_X2_walkConsts g_X2_walk t99 x0 x1 x2 x3 x5 M = run T_X2_walk P_RX2 false 5 (naL na_X2_walk) (caL (ca_X2_walk F g_X2_walkConsts g_X2_walk)) (lkN th_X2_walk) (lkN sw_X2_walk) krV kxN (spL [99]) (KL [(99, kd_X2_walk_99 t99)]) 120 148 [some (.ref x0), some (.int x1), some (.int x2), some (.int x3), none, some (.int x5)] [] M := rfl
theorem ok_X2_walk_148 {X : cCtx} {D : Nat} {r : cM} (G : FX X 6 (eV r) cX2_walk RX2 5 D) {F : Nat} (g_X2_walkConsts : Nat → Int32 → Int32 → Int32 → cM → Option (cM)) (g_X2_walk : Nat → Int32 → Int32 → Int32 → cM → Option (cM)) (hca : ∀ x ∈ (ca_X2_walk (R' := cM) F g_X2_walkConsts g_X2_walk), 1 ≤ D ∧ ceS X.1 RX2 (D - 1) x.1 x.2) (k99 : Nat → Int32 → Int32 → Int32 → Int32 → cM → Option (cM)) (hk99 : ∀ x0 x1 x2 x3 x5 M, k99 x0 x1 x2 x3 x5 M = some r → WX X 6 (eV r) 99 [some (.ref x0), some (.int x1), some (.int x2), some (.int x3), none, some (.int x5)] [] M) : ∀ x0 x1 x2 x3 x5 M, f_X2_walk_148 F g_X2_walkConsts g_X2_walk k99 x0 x1 x2 x3 x5 M = some r → WX X 6 (eV r) 148 [some (.ref x0), some (.int x1), some (.int x2), some (.int x3), none, some (.int x5)] [] M := by
  intro x0 x1 x2 x3 x5 M h
  exact seg_ok G P_RX2_ok T_X2_walk_ok hca (fun _ h => absurd h List.not_mem_nil) sw_X2_walk_ok krV_ok (kxN_ok (f := eV)) (List.forall_mem_cons.mpr ⟨kf_X2_walk_99 (hk99), fun _ h => absurd h List.not_mem_nil⟩) ((e_X2_walk_148 F g_X2_walkConsts g_X2_walk (k99) x0 x1 x2 x3 x5 M).symm.trans h)
theorem e_X2_walk_99 (F : Nat) (g_X2_walkConsts : Nat → Int32 → Int32 → Int32 → cM → Option (cM)) (g_X2_walk : Nat → Int32 → Int32 → Int32 → cM → Option (cM)) (t99 : Nat → Int32 → Int32 → Int32 → Int32 → cM → Option (cM)) (t148 : Nat → Int32 → Int32 → Int32 → Int32 → cM → Option (cM)) (x0 : Nat) (x1 : Int32) (x2 : Int32) (x3 : Int32) (x5 : Int32) (M : cM) : b_X2_walk_99 F g_X2_walkConsts g_X2_walk t99 t148 x0 x1 x2 x3 x5 M = run T_X2_walk P_RX2 false 5 (naL na_X2_walk) (caL (ca_X2_walk F g_X2_walkConsts g_X2_walk)) (lkN th_X2_walk) (lkN sw_X2_walk) krV kxN (spL [99, 148]) (KL [(99, kd_X2_walk_99 t99), (148, kd_X2_walk_148 t148)]) 120 99 [some (.ref x0), some (.int x1), some (.int x2), some (.int x3), none, some (.int x5)] [] M := rfl
theorem ok_X2_walk_99 {X : cCtx} {D : Nat} {r : cM} (G : FX X 6 (eV r) cX2_walk RX2 5 D) {F : Nat} (g_X2_walkConsts : Nat → Int32 → Int32 → Int32 → cM → Option (cM)) (g_X2_walk : Nat → Int32 → Int32 → Int32 → cM → Option (cM)) (hca : ∀ x ∈ (ca_X2_walk (R' := cM) F g_X2_walkConsts g_X2_walk), 1 ≤ D ∧ ceS X.1 RX2 (D - 1) x.1 x.2) (n : Nat) : ∀ x0 x1 x2 x3 x5 M, f_X2_walk_99 F g_X2_walkConsts g_X2_walk n x0 x1 x2 x3 x5 M = some r → WX X 6 (eV r) 99 [some (.ref x0), some (.int x1), some (.int x2), some (.int x3), none, some (.int x5)] [] M := by
  induction n with
  | zero => intro x0 x1 x2 x3 x5 M h; cases h
  | succ n ih =>
    intro x0 x1 x2 x3 x5 M h
    exact seg_ok G P_RX2_ok T_X2_walk_ok hca (fun _ h => absurd h List.not_mem_nil) sw_X2_walk_ok krV_ok (kxN_ok (f := eV)) (List.forall_mem_cons.mpr ⟨kf_X2_walk_99 (ih), List.forall_mem_cons.mpr ⟨kf_X2_walk_148 (ok_X2_walk_148 G g_X2_walkConsts g_X2_walk hca (f_X2_walk_99 F g_X2_walkConsts g_X2_walk n) ih), fun _ h => absurd h List.not_mem_nil⟩⟩) ((e_X2_walk_99 F g_X2_walkConsts g_X2_walk (f_X2_walk_99 F g_X2_walkConsts g_X2_walk n) (f_X2_walk_148 F g_X2_walkConsts g_X2_walk (f_X2_walk_99 F g_X2_walkConsts g_X2_walk n)) x0 x1 x2 x3 x5 M).symm.trans h)
theorem e_X2_walk_30 (F : Nat) (g_X2_walkConsts : Nat → Int32 → Int32 → Int32 → cM → Option (cM)) (g_X2_walk : Nat → Int32 → Int32 → Int32 → cM → Option (cM)) (t61 : Nat → Int32 → cM → Option (cM)) (t99 : Nat → Int32 → Int32 → Int32 → Int32 → cM → Option (cM)) (x0 : Nat) (x1 : Int32) (x2 : Int32) (x3 : Int32) (x4 : Int32) (M : cM) : b_X2_walk_30 F g_X2_walkConsts g_X2_walk t61 t99 x0 x1 x2 x3 x4 M = run T_X2_walk P_RX2 false 5 (naL na_X2_walk) (caL (ca_X2_walk F g_X2_walkConsts g_X2_walk)) (lkN th_X2_walk) (lkN sw_X2_walk) krV kxN (spL [61, 99]) (KL [(61, kd_X2_walk_61 t61), (99, kd_X2_walk_99 t99)]) 120 30 [some (.ref x0), some (.int x1), some (.int x2), some (.int x3), some (.int x4), none] [] M := rfl
theorem ok_X2_walk_30 {X : cCtx} {D : Nat} {r : cM} (G : FX X 6 (eV r) cX2_walk RX2 5 D) {F : Nat} (g_X2_walkConsts : Nat → Int32 → Int32 → Int32 → cM → Option (cM)) (g_X2_walk : Nat → Int32 → Int32 → Int32 → cM → Option (cM)) (hca : ∀ x ∈ (ca_X2_walk (R' := cM) F g_X2_walkConsts g_X2_walk), 1 ≤ D ∧ ceS X.1 RX2 (D - 1) x.1 x.2) : ∀ x0 x1 x2 x3 x4 M, f_X2_walk_30 F g_X2_walkConsts g_X2_walk x0 x1 x2 x3 x4 M = some r → WX X 6 (eV r) 30 [some (.ref x0), some (.int x1), some (.int x2), some (.int x3), some (.int x4), none] [] M := by
  intro x0 x1 x2 x3 x4 M h
  exact seg_ok G P_RX2_ok T_X2_walk_ok hca (fun _ h => absurd h List.not_mem_nil) sw_X2_walk_ok krV_ok (kxN_ok (f := eV)) (List.forall_mem_cons.mpr ⟨kf_X2_walk_61 (ok_X2_walk_61 G g_X2_walkConsts g_X2_walk hca), List.forall_mem_cons.mpr ⟨kf_X2_walk_99 (ok_X2_walk_99 G g_X2_walkConsts g_X2_walk hca F), fun _ h => absurd h List.not_mem_nil⟩⟩) ((e_X2_walk_30 F g_X2_walkConsts g_X2_walk (f_X2_walk_61 F g_X2_walkConsts g_X2_walk) (f_X2_walk_99 F g_X2_walkConsts g_X2_walk F) x0 x1 x2 x3 x4 M).symm.trans h)
theorem e_X2_walk_0 (F : Nat) (g_X2_walkConsts : Nat → Int32 → Int32 → Int32 → cM → Option (cM)) (g_X2_walk : Nat → Int32 → Int32 → Int32 → cM → Option (cM)) (t30 : Nat → Int32 → Int32 → Int32 → Int32 → cM → Option (cM)) (x0 : Nat) (x1 : Int32) (x2 : Int32) (x3 : Int32) (M : cM) : b_X2_walk_0 F g_X2_walkConsts g_X2_walk t30 x0 x1 x2 x3 M = run T_X2_walk P_RX2 false 5 (naL na_X2_walk) (caL (ca_X2_walk F g_X2_walkConsts g_X2_walk)) (lkN th_X2_walk) (lkN sw_X2_walk) krV kxN (spL [30]) (KL [(30, kd_X2_walk_30 t30)]) 120 0 [some (.ref x0), some (.int x1), some (.int x2), some (.int x3), none, none] [] M := rfl
theorem ok_X2_walk_0 {X : cCtx} {D : Nat} {r : cM} (G : FX X 6 (eV r) cX2_walk RX2 5 D) {F : Nat} (g_X2_walkConsts : Nat → Int32 → Int32 → Int32 → cM → Option (cM)) (g_X2_walk : Nat → Int32 → Int32 → Int32 → cM → Option (cM)) (hca : ∀ x ∈ (ca_X2_walk (R' := cM) F g_X2_walkConsts g_X2_walk), 1 ≤ D ∧ ceS X.1 RX2 (D - 1) x.1 x.2) : ∀ x0 x1 x2 x3 M, f_X2_walk_0 F g_X2_walkConsts g_X2_walk x0 x1 x2 x3 M = some r → WX X 6 (eV r) 0 [some (.ref x0), some (.int x1), some (.int x2), some (.int x3), none, none] [] M := by
  intro x0 x1 x2 x3 M h
  exact seg_ok G P_RX2_ok T_X2_walk_ok hca (fun _ h => absurd h List.not_mem_nil) sw_X2_walk_ok krV_ok (kxN_ok (f := eV)) (List.forall_mem_cons.mpr ⟨kf_X2_walk_30 (ok_X2_walk_30 G g_X2_walkConsts g_X2_walk hca), fun _ h => absurd h List.not_mem_nil⟩) ((e_X2_walk_0 F g_X2_walkConsts g_X2_walk (f_X2_walk_30 F g_X2_walkConsts g_X2_walk) x0 x1 x2 x3 M).symm.trans h)
theorem c_X2_walk {q : cL} (hst : q.1.stackTraces = false) {D : Nat} (hD : 29 ≤ D) (F : Nat) (g_X2_walkConsts : Nat → Int32 → Int32 → Int32 → cM → Option (cM)) (g_X2_walk : Nat → Int32 → Int32 → Int32 → cM → Option (cM)) (h_X2_walkConsts : ∀ a0 a1 a2 a3 M r, g_X2_walkConsts a0 a1 a2 a3 M = some r → CTx q yX2_walkConsts (.code yX2_walkConsts cX2_walkConsts 7 none) (D - 1) [.ref a0, .int a1, .int a2, .int a3] M (eV r) ∧ ∃ fs, M[a0]? = some (.inr (1, fs))) (h_X2_walk : ∀ a0 a1 a2 a3 M r, g_X2_walk a0 a1 a2 a3 M = some r → CTx q yX2_walk (.code yX2_walk cX2_walk 6 none) (D - 1) [.ref a0, .int a1, .int a2, .int a3] M (eV r) ∧ ∃ fs, M[a0]? = some (.inr (1, fs))) (a0 : Nat) (a1 : Int32) (a2 : Int32) (a3 : Int32) (M : cM) (r : cM) (h : f_X2_walk F g_X2_walkConsts g_X2_walk a0 a1 a2 a3 M = some r) : CTx q yX2_walk (.code yX2_walk cX2_walk 6 none) D [.ref a0, .int a1, .int a2, .int a3] M (eV r) ∧ ∃ fs, M[a0]? = some (.inr (1, fs)) := by
  unfold f_X2_walk at h
  split at h
  · next hi => exact ⟨CTx_of (own := RX2) (rk := 5) hst (by decide +kernel) rfl (rfl) (Nat.le_of_ble_eq_true rfl) (fun X hX G => by subst hX; exact ok_X2_walk_0 G g_X2_walkConsts g_X2_walk (ca_X2_walk_ok hst hD F g_X2_walkConsts g_X2_walk h_X2_walkConsts h_X2_walk) a0 a1 a2 a3 M h), isC_of hi⟩
  · cases h
theorem cr_X2_walk {q : cL} (hst : q.1.stackTraces = false) (F : Nat) : ∀ (n D : Nat), 31 + 2 * n ≤ D → ∀ a0 a1 a2 a3 (M : cM) (r : cM), r_X2_walk F n a0 a1 a2 a3 M = some r → CTx q yX2_walk (.code yX2_walk cX2_walk 6 none) D [.ref a0, .int a1, .int a2, .int a3] M (eV r) ∧ ∃ fs, M[a0]? = some (.inr (1, fs)) := by
  intro n
  induction n with
  | zero => intro D hD a0 a1 a2 a3 M r h; cases h
  | succ n ih =>
    intro D hD a0 a1 a2 a3 M r h
    exact c_X2_walk hst (by omega) F (f_X2_walkConsts F (r_X2_walk F n)) (r_X2_walk F n) (fun b0 b1 b2 b3 M r h => c_X2_walkConsts hst (by omega) F (r_X2_walk F n) (fun a0 a1 a2 a3 M r h => ih (D - 1 - 1) (by omega) a0 a1 a2 a3 M r h) b0 b1 b2 b3 M r h) (fun a0 a1 a2 a3 M r h => ih (D - 1) (by omega) a0 a1 a2 a3 M r h) a0 a1 a2 a3 M r h
-- PatchbayScript$Finder.find(I)V
def T_X2_find : List cRow := [(0, .aload_n 0, 1, 0), (1, .getfield 26, 4, 0), (4, .iload_n 1, 5, 0), (5, .invokevirtual 87, 8, 0), (8, .iconst 0, 9, 0), (9, .istore_n 2, 10, 0), (10, .iload_n 2, 11, 0), (11, .iconst 4, 12, 0), (12, .if_icmp .ge 28, 15, 40), (15, .aload_n 0, 16, 0), (16, .getfield 34, 19, 0), (19, .iload_n 2, 20, 0), (20, .aload_n 0, 21, 0), (21, .getfield 26, 24, 0), (24, .aload_n 0, 25, 0), (25, .getfield 30, 28, 0), (28, .iload_n 2, 29, 0), (29, .iaload, 30, 0), (30, .invokevirtual 91, 33, 0), (33, .iastore, 34, 0), (34, .iinc 2 1, 37, 0), (37, .goto (-27), 40, 10), (40, .aload_n 0, 41, 0), (41, .invokevirtual 95, 44, 0), (44, .aload_n 0, 45, 0), (45, .dup, 46, 0), (46, .getfield 98, 49, 0), (49, .lconst 1, 50, 0), (50, .ladd, 51, 0), (51, .putfield 98, 54, 0), (54, .aload_n 0, 55, 0), (55, .iconst 0, 56, 0), (56, .putfield 102, 59, 0), (59, .iconst 4, 60, 0), (60, .istore_n 2, 61, 0), (61, .iload_n 2, 62, 0), (62, .bipush 64, 64, 0), (64, .if_icmp .gt 45, 67, 109), (67, .aload_n 0, 68, 0), (68, .getfield 102, 71, 0), (71, .iconst 5, 72, 0), (72, .if_icmp .ge 37, 75, 109), (75, .iconst 1, 76, 0), (76, .istore_n 3, 77, 0), (77, .iload_n 3, 78, 0), (78, .iconst 4, 79, 0), (79, .if_icmp .gt 24, 82, 103), (82, .aload_n 0, 83, 0), (83, .getfield 102, 86, 0), (86, .iconst 5, 87, 0), (87, .if_icmp .ge 16, 90, 103), (90, .aload_n 0, 91, 0), (91, .iload_n 3, 92, 0), (92, .iconst 0, 93, 0), (93, .iload_n 2, 94, 0), (94, .invokevirtual 105, 97, 0), (97, .iinc 3 1, 100, 0), (100, .goto (-23), 103, 77), (103, .iinc 2 1, 106, 0), (106, .goto (-45), 109, 61), (109, .return_, 110, 0)]
theorem T_X2_find_ok : T_X2_find.all (rowB cX2_find) = true := by decide +kernel
def th_X2_find : List (Nat × Nat) := []
def sw_X2_find : List (Nat × (List (Int32 × Nat) × Nat)) := []
theorem sw_X2_find_ok : ∀ q ∈ sw_X2_find, swS cX2_find q := fun _ h => absurd h List.not_mem_nil
def na_X2_find : List (Nat × Nat) := [(262, 2), (274, 2), (286, 1), (316, 4)]
def ca_X2_find {R' : Type} (F : Nat) : List (Nat × cFn R') := [(262, n_X8_gather (f_X8_gather F)), (274, n_X8_indexOf (f_X8_indexOf F)), (286, n_X2_gatherWays (f_X2_gatherWays F)), (316, n_X2_walk (r_X2_walk F 8))]
theorem ca_X2_find_ok {R' : Type} {q : cL} (hst : q.1.stackTraces = false) {D : Nat} (hD : 48 ≤ D) (F : Nat) : ∀ x ∈ (ca_X2_find (R' := R') F), 1 ≤ D ∧ ceS q RX2 (D - 1) x.1 x.2 := List.forall_mem_cons.mpr ⟨⟨by omega, n_X8_gather_ok (k := 87) (lw_good_of (tb_ok 804 (by decide +kernel)) rfl) (fun a0 a1 M r h => c_X8_gather hst (by omega) F a0 a1 M r h)⟩, List.forall_mem_cons.mpr ⟨⟨by omega, n_X8_indexOf_ok (k := 91) (lw_good_of (tb_ok 871 (by decide +kernel)) rfl) (fun a0 a1 M r h => c_X8_indexOf hst (by omega) F a0 a1 M r h)⟩, List.forall_mem_cons.mpr ⟨⟨by omega, n_X2_gatherWays_ok (k := 95) (lw_good_of (tb_ok 875 (by decide +kernel)) rfl) (fun a0 M r h => c_X2_gatherWays hst (by omega) F a0 M r h)⟩, List.forall_mem_cons.mpr ⟨⟨by omega, n_X2_walk_ok (k := 105) (lw_good_of (tb_ok 902 (by decide +kernel)) rfl) (fun a0 a1 a2 a3 M r h => cr_X2_walk hst F 8 (D - 1) (by omega) a0 a1 a2 a3 M r h)⟩, fun _ h => absurd h List.not_mem_nil⟩⟩⟩⟩
def kd_X2_find_10 (g : Nat → Int32 → cM → Option (cM)) : cKf (cM) := fun vs st M => (lR vs 0).bind fun x0 => (lI vs 2).bind fun x2 => match st with
  | [] => g x0 x2 M
  | _ => none
theorem kf_X2_find_10 {X : cCtx} {o : cO} {r : cM} {g : Nat → Int32 → cM → Option (cM)} (hg : ∀ x0 x2 M, g x0 x2 M = some r → WX X 4 o 10 [some (.ref x0), none, some (.int x2), none] [] M) : ∀ vs st M, kd_X2_find_10 g vs st M = some r → WX X 4 o 10 vs st M := by
  intro vs st M h
  unfold kd_X2_find_10 at h
  obtain ⟨x0, h0, h⟩ := Option.bind_eq_some_iff.mp h
  obtain ⟨x2, h2, h⟩ := Option.bind_eq_some_iff.mp h
  split at h
  · exact WX_weak (hg _ _ _ h) rfl ⟨lR_of h0, lI_of h2, trivial⟩
  · cases h
def kd_X2_find_61 (g : Nat → Int32 → cM → Option (cM)) : cKf (cM) := fun vs st M => (lR vs 0).bind fun x0 => (lI vs 2).bind fun x2 => match st with
  | [] => g x0 x2 M
  | _ => none
theorem kf_X2_find_61 {X : cCtx} {o : cO} {r : cM} {g : Nat → Int32 → cM → Option (cM)} (hg : ∀ x0 x2 M, g x0 x2 M = some r → WX X 4 o 61 [some (.ref x0), none, some (.int x2), none] [] M) : ∀ vs st M, kd_X2_find_61 g vs st M = some r → WX X 4 o 61 vs st M := by
  intro vs st M h
  unfold kd_X2_find_61 at h
  obtain ⟨x0, h0, h⟩ := Option.bind_eq_some_iff.mp h
  obtain ⟨x2, h2, h⟩ := Option.bind_eq_some_iff.mp h
  split at h
  · exact WX_weak (hg _ _ _ h) rfl ⟨lR_of h0, lI_of h2, trivial⟩
  · cases h
def kd_X2_find_77 (g : Nat → Int32 → Int32 → cM → Option (cM)) : cKf (cM) := fun vs st M => (lR vs 0).bind fun x0 => (lI vs 2).bind fun x2 => (lI vs 3).bind fun x3 => match st with
  | [] => g x0 x2 x3 M
  | _ => none
theorem kf_X2_find_77 {X : cCtx} {o : cO} {r : cM} {g : Nat → Int32 → Int32 → cM → Option (cM)} (hg : ∀ x0 x2 x3 M, g x0 x2 x3 M = some r → WX X 4 o 77 [some (.ref x0), none, some (.int x2), some (.int x3)] [] M) : ∀ vs st M, kd_X2_find_77 g vs st M = some r → WX X 4 o 77 vs st M := by
  intro vs st M h
  unfold kd_X2_find_77 at h
  obtain ⟨x0, h0, h⟩ := Option.bind_eq_some_iff.mp h
  obtain ⟨x2, h2, h⟩ := Option.bind_eq_some_iff.mp h
  obtain ⟨x3, h3, h⟩ := Option.bind_eq_some_iff.mp h
  split at h
  · exact WX_weak (hg _ _ _ _ h) rfl ⟨lR_of h0, lI_of h2, lI_of h3, trivial⟩
  · cases h
theorem e_X2_find_77 (F : Nat) (t61 : Nat → Int32 → cM → Option (cM)) (t77 : Nat → Int32 → Int32 → cM → Option (cM)) (x0 : Nat) (x2 : Int32) (x3 : Int32) (M : cM) : b_X2_find_77 F t61 t77 x0 x2 x3 M = run T_X2_find P_RX2 false 5 (naL na_X2_find) (caL (ca_X2_find F)) (lkN th_X2_find) (lkN sw_X2_find) krV kxN (spL [61, 77]) (KL [(61, kd_X2_find_61 t61), (77, kd_X2_find_77 t77)]) 64 77 [some (.ref x0), none, some (.int x2), some (.int x3)] [] M := rfl
theorem ok_X2_find_77 {X : cCtx} {D : Nat} {r : cM} (G : FX X 4 (eV r) cX2_find RX2 5 D) {F : Nat} (hca : ∀ x ∈ (ca_X2_find (R' := cM) F), 1 ≤ D ∧ ceS X.1 RX2 (D - 1) x.1 x.2) (k61 : Nat → Int32 → cM → Option (cM)) (hk61 : ∀ x0 x2 M, k61 x0 x2 M = some r → WX X 4 (eV r) 61 [some (.ref x0), none, some (.int x2), none] [] M) (n : Nat) : ∀ x0 x2 x3 M, f_X2_find_77 F k61 n x0 x2 x3 M = some r → WX X 4 (eV r) 77 [some (.ref x0), none, some (.int x2), some (.int x3)] [] M := by
  induction n with
  | zero => intro x0 x2 x3 M h; cases h
  | succ n ih =>
    intro x0 x2 x3 M h
    exact seg_ok G P_RX2_ok T_X2_find_ok hca (fun _ h => absurd h List.not_mem_nil) sw_X2_find_ok krV_ok (kxN_ok (f := eV)) (List.forall_mem_cons.mpr ⟨kf_X2_find_61 (hk61), List.forall_mem_cons.mpr ⟨kf_X2_find_77 (ih), fun _ h => absurd h List.not_mem_nil⟩⟩) ((e_X2_find_77 F (k61) (f_X2_find_77 F k61 n) x0 x2 x3 M).symm.trans h)
theorem e_X2_find_61 (F : Nat) (t77 : Nat → Int32 → Int32 → cM → Option (cM)) (x0 : Nat) (x2 : Int32) (M : cM) : b_X2_find_61 F t77 x0 x2 M = run T_X2_find P_RX2 false 5 (naL na_X2_find) (caL (ca_X2_find F)) (lkN th_X2_find) (lkN sw_X2_find) krV kxN (spL [77]) (KL [(77, kd_X2_find_77 t77)]) 64 61 [some (.ref x0), none, some (.int x2), none] [] M := rfl
theorem ok_X2_find_61 {X : cCtx} {D : Nat} {r : cM} (G : FX X 4 (eV r) cX2_find RX2 5 D) {F : Nat} (hca : ∀ x ∈ (ca_X2_find (R' := cM) F), 1 ≤ D ∧ ceS X.1 RX2 (D - 1) x.1 x.2) (n : Nat) : ∀ x0 x2 M, f_X2_find_61 F n x0 x2 M = some r → WX X 4 (eV r) 61 [some (.ref x0), none, some (.int x2), none] [] M := by
  induction n with
  | zero => intro x0 x2 M h; cases h
  | succ n ih =>
    intro x0 x2 M h
    exact seg_ok G P_RX2_ok T_X2_find_ok hca (fun _ h => absurd h List.not_mem_nil) sw_X2_find_ok krV_ok (kxN_ok (f := eV)) (List.forall_mem_cons.mpr ⟨kf_X2_find_77 (ok_X2_find_77 G hca (f_X2_find_61 F n) ih F), fun _ h => absurd h List.not_mem_nil⟩) ((e_X2_find_61 F (f_X2_find_77 F (f_X2_find_61 F n) F) x0 x2 M).symm.trans h)
theorem e_X2_find_10 (F : Nat) (t10 : Nat → Int32 → cM → Option (cM)) (t61 : Nat → Int32 → cM → Option (cM)) (x0 : Nat) (x2 : Int32) (M : cM) : b_X2_find_10 F t10 t61 x0 x2 M = run T_X2_find P_RX2 false 5 (naL na_X2_find) (caL (ca_X2_find F)) (lkN th_X2_find) (lkN sw_X2_find) krV kxN (spL [10, 61]) (KL [(10, kd_X2_find_10 t10), (61, kd_X2_find_61 t61)]) 64 10 [some (.ref x0), none, some (.int x2), none] [] M := rfl
theorem ok_X2_find_10 {X : cCtx} {D : Nat} {r : cM} (G : FX X 4 (eV r) cX2_find RX2 5 D) {F : Nat} (hca : ∀ x ∈ (ca_X2_find (R' := cM) F), 1 ≤ D ∧ ceS X.1 RX2 (D - 1) x.1 x.2) (n : Nat) : ∀ x0 x2 M, f_X2_find_10 F n x0 x2 M = some r → WX X 4 (eV r) 10 [some (.ref x0), none, some (.int x2), none] [] M := by
  induction n with
  | zero => intro x0 x2 M h; cases h
  | succ n ih =>
    intro x0 x2 M h
    exact seg_ok G P_RX2_ok T_X2_find_ok hca (fun _ h => absurd h List.not_mem_nil) sw_X2_find_ok krV_ok (kxN_ok (f := eV)) (List.forall_mem_cons.mpr ⟨kf_X2_find_10 (ih), List.forall_mem_cons.mpr ⟨kf_X2_find_61 (ok_X2_find_61 G hca F), fun _ h => absurd h List.not_mem_nil⟩⟩) ((e_X2_find_10 F (f_X2_find_10 F n) (f_X2_find_61 F F) x0 x2 M).symm.trans h)
theorem e_X2_find_0 (F : Nat) (t10 : Nat → Int32 → cM → Option (cM)) (x0 : Nat) (x1 : Int32) (M : cM) : b_X2_find_0 F t10 x0 x1 M = run T_X2_find P_RX2 false 5 (naL na_X2_find) (caL (ca_X2_find F)) (lkN th_X2_find) (lkN sw_X2_find) krV kxN (spL [10]) (KL [(10, kd_X2_find_10 t10)]) 64 0 [some (.ref x0), some (.int x1), none, none] [] M := rfl
theorem ok_X2_find_0 {X : cCtx} {D : Nat} {r : cM} (G : FX X 4 (eV r) cX2_find RX2 5 D) {F : Nat} (hca : ∀ x ∈ (ca_X2_find (R' := cM) F), 1 ≤ D ∧ ceS X.1 RX2 (D - 1) x.1 x.2) : ∀ x0 x1 M, f_X2_find_0 F x0 x1 M = some r → WX X 4 (eV r) 0 [some (.ref x0), some (.int x1), none, none] [] M := by
  intro x0 x1 M h
  exact seg_ok G P_RX2_ok T_X2_find_ok hca (fun _ h => absurd h List.not_mem_nil) sw_X2_find_ok krV_ok (kxN_ok (f := eV)) (List.forall_mem_cons.mpr ⟨kf_X2_find_10 (ok_X2_find_10 G hca F), fun _ h => absurd h List.not_mem_nil⟩) ((e_X2_find_0 F (f_X2_find_10 F F) x0 x1 M).symm.trans h)
theorem c_X2_find {q : cL} (hst : q.1.stackTraces = false) {D : Nat} (hD : 48 ≤ D) (F : Nat) (a0 : Nat) (a1 : Int32) (M : cM) (r : cM) (h : f_X2_find F a0 a1 M = some r) : CTx q yX2_find (.code yX2_find cX2_find 4 none) D [.ref a0, .int a1] M (eV r) ∧ ∃ fs, M[a0]? = some (.inr (1, fs)) := by
  unfold f_X2_find at h
  split at h
  · next hi => exact ⟨CTx_of (own := RX2) (rk := 5) hst (by decide +kernel) rfl (rfl) (Nat.le_of_ble_eq_true rfl) (fun X hX G => by subst hX; exact ok_X2_find_0 G (ca_X2_find_ok hst hD F) a0 a1 M h), isC_of hi⟩
  · cases h
def n_X2_find {R' : Type} (f : Nat → Int32 → cM → Option (cM)) : cFn R' := fun as M κ κx => match as with
  | [.ref a0, .int a1] => (f a0 a1 M).bind fun p => κ none p
  | _ => none
theorem w_X2_find : ∀ w ∈ [Cond.instanceMethod yX2_find, .selects yX2_find.cls yX2_find yX2_find, .initialized yX2_find.cls, .code yX2_find cX2_find 4 none], w ∈ lw_good := List.forall_mem_cons.mpr ⟨lw_good_of (tb_ok 801 (by decide +kernel)) rfl, List.forall_mem_cons.mpr ⟨lw_good_of (tb_ok 802 (by decide +kernel)) rfl, List.forall_mem_cons.mpr ⟨lw_good_of (tb_ok 8 (by decide +kernel)) rfl, List.forall_mem_cons.mpr ⟨lw_good_of (tb_ok 803 (by decide +kernel)) rfl, fun _ h => absurd h List.not_mem_nil⟩⟩⟩⟩
theorem n_X2_find_ok {R' : Type} {q : cL} {own : String} {d k : Nat} {f : Nat → Int32 → cM → Option (cM)} (hl : Cond.methodLink own k yX2_find ∈ lw_good) (hf : ∀ a0 a1 M r, f a0 a1 M = some r → CTx q yX2_find (.code yX2_find cX2_find 4 none) d [.ref a0, .int a1] M (eV r) ∧ ∃ fs, M[a0]? = some (.inr (1, fs))) : ceS q own d (3 * k + 1) (n_X2_find (R' := R') f) := by
  intro as M κ κx r h
  unfold n_X2_find at h
  split at h
  · obtain ⟨p, h1, h2⟩ := Option.bind_eq_some_iff.mp h
    obtain ⟨hc, fs, ha⟩ := hf _ _ _ _ h1
    exact ⟨eV p, fun _ => h2, fun hne => absurd rfl hne, Or.inr (Or.inl ⟨yX2_find, cX2_find, 4, none, k, 1, _, _, 1, TX2, 14, fs, rfl, rfl, hc, ha, rfl, List.forall_mem_cons.mpr ⟨hl, w_X2_find⟩, ⟨rfl, by decide +kernel, by decide +kernel, by decide +kernel⟩, rfl, by decide⟩)⟩
  · cases h
-- PatchbayScript$Learner.allOf(LPatchbayScript$Task;)I
def T_X3_allOf : List cRow := [(0, .iconst 1, 1, 0), (1, .aload_n 0, 2, 0), (2, .getfield 47, 5, 0), (5, .iconst 4, 6, 0), (6, .invokestatic 111, 9, 0), (9, .ishl, 10, 0), (10, .iconst 1, 11, 0), (11, .isub, 12, 0), (12, .ireturn, 13, 0)]
theorem T_X3_allOf_ok : T_X3_allOf.all (rowB cX3_allOf) = true := by decide +kernel
def th_X3_allOf : List (Nat × Nat) := []
def sw_X3_allOf : List (Nat × (List (Int32 × Nat) × Nat)) := []
theorem sw_X3_allOf_ok : ∀ q ∈ sw_X3_allOf, swS cX3_allOf q := fun _ h => absurd h List.not_mem_nil
def na_X3_allOf : List (Nat × Nat) := [(333, 2)]
def ca_X3_allOf {R' : Type} (F : Nat) : List (Nat × cFn R') := [(333, n_min)]
theorem ca_X3_allOf_ok {R' : Type} {q : cL} (hst : q.1.stackTraces = false) {D : Nat} (hD : 1 ≤ D) (F : Nat) : ∀ x ∈ (ca_X3_allOf (R' := R') F), 1 ≤ D ∧ ceS q RX3 (D - 1) x.1 x.2 := List.forall_mem_cons.mpr ⟨⟨by omega, n_min_ok (k := 111) (lw_good_of (tb_ok 799 (by decide +kernel)) rfl)⟩, fun _ h => absurd h List.not_mem_nil⟩
theorem e_X3_allOf_0 (F : Nat) (x0 : Nat) (M : cM) : b_X3_allOf_0 F x0 M = run T_X3_allOf P_RX3 false 0 (naL na_X3_allOf) (caL (ca_X3_allOf F)) (lkN th_X3_allOf) (lkN sw_X3_allOf) krI kxN (spL []) (KL []) 12 0 [some (.ref x0)] [] M := rfl
theorem ok_X3_allOf_0 {X : cCtx} {D : Nat} {r : Int32 × cM} (G : FX X 1 (eI r) cX3_allOf RX3 0 D) {F : Nat} (hca : ∀ x ∈ (ca_X3_allOf (R' := Int32 × cM) F), 1 ≤ D ∧ ceS X.1 RX3 (D - 1) x.1 x.2) : ∀ x0 M, f_X3_allOf_0 F x0 M = some r → WX X 1 (eI r) 0 [some (.ref x0)] [] M := by
  intro x0 M h
  exact seg_ok G P_RX3_ok T_X3_allOf_ok hca (fun _ h => absurd h List.not_mem_nil) sw_X3_allOf_ok krI_ok (kxN_ok (f := eI)) (fun _ h => absurd h List.not_mem_nil) ((e_X3_allOf_0 F x0 M).symm.trans h)
theorem c_X3_allOf {q : cL} (hst : q.1.stackTraces = false) {D : Nat} (hD : 1 ≤ D) (F : Nat) (a0 : Nat) (M : cM) (r : Int32 × cM) (h : f_X3_allOf F a0 M = some r) : CTx q yX3_allOf (.code yX3_allOf cX3_allOf 1 (some .int)) D [.ref a0] M (eI r) := by
  exact CTx_of (own := RX3) (rk := 0) hst (by decide +kernel) rfl (rfl) (Nat.le_of_ble_eq_true rfl) (fun X hX G => by subst hX; exact ok_X3_allOf_0 G (ca_X3_allOf_ok hst hD F) a0 M h)
def n_X3_allOf {R' : Type} (f : Nat → cM → Option (Int32 × cM)) : cFn R' := fun as M κ κx => match as with
  | [.ref a0] => (f a0 M).bind fun p => κ (some (.int p.1)) p.2
  | _ => none
theorem w_X3_allOf : ∀ w ∈ [Cond.static yX3_allOf, .initialized yX3_allOf.cls, .code yX3_allOf cX3_allOf 1 (some .int)], w ∈ lw_good := List.forall_mem_cons.mpr ⟨lw_good_of (tb_ok 797 (by decide +kernel)) rfl, List.forall_mem_cons.mpr ⟨lw_good_of (tb_ok 7 (by decide +kernel)) rfl, List.forall_mem_cons.mpr ⟨lw_good_of (tb_ok 798 (by decide +kernel)) rfl, fun _ h => absurd h List.not_mem_nil⟩⟩⟩
theorem n_X3_allOf_ok {R' : Type} {q : cL} {own : String} {d k : Nat} {f : Nat → cM → Option (Int32 × cM)} (hl : Cond.methodLink own k yX3_allOf ∈ lw_good) (hf : ∀ a0 M r, f a0 M = some r → CTx q yX3_allOf (.code yX3_allOf cX3_allOf 1 (some .int)) d [.ref a0] M (eI r)) : ceS q own d (3 * k) (n_X3_allOf (R' := R') f) := by
  intro as M κ κx r h
  unfold n_X3_allOf at h
  split at h
  · obtain ⟨p, h1, h2⟩ := Option.bind_eq_some_iff.mp h
    exact ⟨eI p, fun _ => h2, fun hne => absurd rfl hne, Or.inl ⟨yX3_allOf, cX3_allOf, 1, (some .int), k, 1, rfl, hf _ _ _ h1, List.forall_mem_cons.mpr ⟨hl, w_X3_allOf⟩, ⟨by decide +kernel, by decide +kernel, by decide +kernel⟩, rfl, by decide⟩⟩
  · cases h
-- PatchbayScript$Program.set(LPatchbayScript$Program;)V
def T_X6_set : List cRow := [(0, .aload_n 0, 1, 0), (1, .aload_n 1, 2, 0), (2, .getfield 15, 5, 0), (5, .putfield 15, 8, 0), (8, .iconst 0, 9, 0), (9, .istore_n 2, 10, 0), (10, .iload_n 2, 11, 0), (11, .iconst 4, 12, 0), (12, .if_icmp .ge 21, 15, 33), (15, .aload_n 0, 16, 0), (16, .getfield 9, 19, 0), (19, .iload_n 2, 20, 0), (20, .aload_n 1, 21, 0), (21, .getfield 9, 24, 0), (24, .iload_n 2, 25, 0), (25, .iaload, 26, 0), (26, .iastore, 27, 0), (27, .iinc 2 1, 30, 0), (30, .goto (-20), 33, 10), (33, .return_, 34, 0)]
theorem T_X6_set_ok : T_X6_set.all (rowB cX6_set) = true := by decide +kernel
def th_X6_set : List (Nat × Nat) := []
def sw_X6_set : List (Nat × (List (Int32 × Nat) × Nat)) := []
theorem sw_X6_set_ok : ∀ q ∈ sw_X6_set, swS cX6_set q := fun _ h => absurd h List.not_mem_nil
def na_X6_set : List (Nat × Nat) := []
def ca_X6_set {R' : Type} (F : Nat) : List (Nat × cFn R') := []
theorem ca_X6_set_ok {R' : Type} {q : cL} (hst : q.1.stackTraces = false) {D : Nat} (hD : 0 ≤ D) (F : Nat) : ∀ x ∈ (ca_X6_set (R' := R') F), 1 ≤ D ∧ ceS q RX6 (D - 1) x.1 x.2 := fun _ h => absurd h List.not_mem_nil
def kd_X6_set_10 (g : Nat → Nat → Int32 → cM → Option (cM)) : cKf (cM) := fun vs st M => (lR vs 0).bind fun x0 => (lR vs 1).bind fun x1 => (lI vs 2).bind fun x2 => match st with
  | [] => g x0 x1 x2 M
  | _ => none
theorem kf_X6_set_10 {X : cCtx} {o : cO} {r : cM} {g : Nat → Nat → Int32 → cM → Option (cM)} (hg : ∀ x0 x1 x2 M, g x0 x1 x2 M = some r → WX X 3 o 10 [some (.ref x0), some (.ref x1), some (.int x2)] [] M) : ∀ vs st M, kd_X6_set_10 g vs st M = some r → WX X 3 o 10 vs st M := by
  intro vs st M h
  unfold kd_X6_set_10 at h
  obtain ⟨x0, h0, h⟩ := Option.bind_eq_some_iff.mp h
  obtain ⟨x1, h1, h⟩ := Option.bind_eq_some_iff.mp h
  obtain ⟨x2, h2, h⟩ := Option.bind_eq_some_iff.mp h
  split at h
  · exact WX_weak (hg _ _ _ _ h) rfl ⟨lR_of h0, lR_of h1, lI_of h2, trivial⟩
  · cases h
theorem e_X6_set_10 (F : Nat) (t10 : Nat → Nat → Int32 → cM → Option (cM)) (x0 : Nat) (x1 : Nat) (x2 : Int32) (M : cM) : b_X6_set_10 F t10 x0 x1 x2 M = run T_X6_set P_RX6 false 5 (naL na_X6_set) (caL (ca_X6_set F)) (lkN th_X6_set) (lkN sw_X6_set) krV kxN (spL [10]) (KL [(10, kd_X6_set_10 t10)]) 23 10 [some (.ref x0), some (.ref x1), some (.int x2)] [] M := rfl
theorem ok_X6_set_10 {X : cCtx} {D : Nat} {r : cM} (G : FX X 3 (eV r) cX6_set RX6 5 D) {F : Nat} (hca : ∀ x ∈ (ca_X6_set (R' := cM) F), 1 ≤ D ∧ ceS X.1 RX6 (D - 1) x.1 x.2) (n : Nat) : ∀ x0 x1 x2 M, f_X6_set_10 F n x0 x1 x2 M = some r → WX X 3 (eV r) 10 [some (.ref x0), some (.ref x1), some (.int x2)] [] M := by
  induction n with
  | zero => intro x0 x1 x2 M h; cases h
  | succ n ih =>
    intro x0 x1 x2 M h
    exact seg_ok G P_RX6_ok T_X6_set_ok hca (fun _ h => absurd h List.not_mem_nil) sw_X6_set_ok krV_ok (kxN_ok (f := eV)) (List.forall_mem_cons.mpr ⟨kf_X6_set_10 (ih), fun _ h => absurd h List.not_mem_nil⟩) ((e_X6_set_10 F (f_X6_set_10 F n) x0 x1 x2 M).symm.trans h)
theorem e_X6_set_0 (F : Nat) (t10 : Nat → Nat → Int32 → cM → Option (cM)) (x0 : Nat) (x1 : Nat) (M : cM) : b_X6_set_0 F t10 x0 x1 M = run T_X6_set P_RX6 false 5 (naL na_X6_set) (caL (ca_X6_set F)) (lkN th_X6_set) (lkN sw_X6_set) krV kxN (spL [10]) (KL [(10, kd_X6_set_10 t10)]) 23 0 [some (.ref x0), some (.ref x1), none] [] M := rfl
theorem ok_X6_set_0 {X : cCtx} {D : Nat} {r : cM} (G : FX X 3 (eV r) cX6_set RX6 5 D) {F : Nat} (hca : ∀ x ∈ (ca_X6_set (R' := cM) F), 1 ≤ D ∧ ceS X.1 RX6 (D - 1) x.1 x.2) : ∀ x0 x1 M, f_X6_set_0 F x0 x1 M = some r → WX X 3 (eV r) 0 [some (.ref x0), some (.ref x1), none] [] M := by
  intro x0 x1 M h
  exact seg_ok G P_RX6_ok T_X6_set_ok hca (fun _ h => absurd h List.not_mem_nil) sw_X6_set_ok krV_ok (kxN_ok (f := eV)) (List.forall_mem_cons.mpr ⟨kf_X6_set_10 (ok_X6_set_10 G hca F), fun _ h => absurd h List.not_mem_nil⟩) ((e_X6_set_0 F (f_X6_set_10 F F) x0 x1 M).symm.trans h)
theorem c_X6_set {q : cL} (hst : q.1.stackTraces = false) {D : Nat} (hD : 0 ≤ D) (F : Nat) (a0 : Nat) (a1 : Nat) (M : cM) (r : cM) (h : f_X6_set F a0 a1 M = some r) : CTx q yX6_set (.code yX6_set cX6_set 3 none) D [.ref a0, .ref a1] M (eV r) ∧ ∃ fs, M[a0]? = some (.inr (5, fs)) := by
  unfold f_X6_set at h
  split at h
  · next hi => exact ⟨CTx_of (own := RX6) (rk := 5) hst (by decide +kernel) rfl (rfl) (Nat.le_of_ble_eq_true rfl) (fun X hX G => by subst hX; exact ok_X6_set_0 G (ca_X6_set_ok hst hD F) a0 a1 M h), isC_of hi⟩
  · cases h
def n_X6_set {R' : Type} (f : Nat → Nat → cM → Option (cM)) : cFn R' := fun as M κ κx => match as with
  | [.ref a0, .ref a1] => (f a0 a1 M).bind fun p => κ none p
  | _ => none
theorem w_X6_set : ∀ w ∈ [Cond.instanceMethod yX6_set, .selects yX6_set.cls yX6_set yX6_set, .initialized yX6_set.cls, .code yX6_set cX6_set 3 none], w ∈ lw_good := List.forall_mem_cons.mpr ⟨lw_good_of (tb_ok 547 (by decide +kernel)) rfl, List.forall_mem_cons.mpr ⟨lw_good_of (tb_ok 548 (by decide +kernel)) rfl, List.forall_mem_cons.mpr ⟨lw_good_of (tb_ok 5 (by decide +kernel)) rfl, List.forall_mem_cons.mpr ⟨lw_good_of (tb_ok 549 (by decide +kernel)) rfl, fun _ h => absurd h List.not_mem_nil⟩⟩⟩⟩
theorem n_X6_set_ok {R' : Type} {q : cL} {own : String} {d k : Nat} {f : Nat → Nat → cM → Option (cM)} (hl : Cond.methodLink own k yX6_set ∈ lw_good) (hf : ∀ a0 a1 M r, f a0 a1 M = some r → CTx q yX6_set (.code yX6_set cX6_set 3 none) d [.ref a0, .ref a1] M (eV r) ∧ ∃ fs, M[a0]? = some (.inr (5, fs))) : ceS q own d (3 * k + 1) (n_X6_set (R' := R') f) := by
  intro as M κ κx r h
  unfold n_X6_set at h
  split at h
  · obtain ⟨p, h1, h2⟩ := Option.bind_eq_some_iff.mp h
    obtain ⟨hc, fs, ha⟩ := hf _ _ _ _ h1
    exact ⟨eV p, fun _ => h2, fun hne => absurd rfl hne, Or.inr (Or.inl ⟨yX6_set, cX6_set, 3, none, k, 1, _, _, 5, TX6, 2, fs, rfl, rfl, hc, ha, rfl, List.forall_mem_cons.mpr ⟨hl, w_X6_set⟩, ⟨rfl, by decide +kernel, by decide +kernel, by decide +kernel⟩, rfl, by decide⟩)⟩
  · cases h
-- PatchbayScript$Learner.findBest(LPatchbayScript$Task;)V
def T_X3_findBest : List cRow := [(0, .aload_n 1, 1, 0), (1, .getfield 39, 4, 0), (4, .ifCond .eq 4, 7, 8), (7, .return_, 8, 0), (8, .aload_n 1, 9, 0), (9, .iconst 1, 10, 0), (10, .putfield 39, 13, 0), (13, .aload_n 1, 14, 0), (14, .iconst 0, 15, 0), (15, .putfield 43, 18, 0), (18, .aload_n 1, 19, 0), (19, .getfield 47, 22, 0), (22, .ifCond .ne 4, 25, 26), (25, .return_, 26, 0), (26, .aload_n 0, 27, 0), (27, .getfield 12, 30, 0), (30, .aload_n 1, 31, 0), (31, .invokevirtual 50, 34, 0), (34, .aload_n 0, 35, 0), (35, .getfield 12, 38, 0), (38, .aload_n 1, 39, 0), (39, .invokestatic 54, 42, 0), (42, .invokevirtual 58, 45, 0), (45, .iconst 0, 46, 0), (46, .istore_n 2, 47, 0), (47, .iload_n 2, 48, 0), (48, .aload_n 0, 49, 0), (49, .getfield 12, 52, 0), (52, .getfield 62, 55, 0), (55, .if_icmp .ge 39, 58, 94), (58, .iload_n 2, 59, 0), (59, .iconst 5, 60, 0), (60, .if_icmp .ge 34, 63, 94), (63, .aload_n 1, 64, 0), (64, .getfield 65, 67, 0), (67, .iload_n 2, 68, 0), (68, .aaload, 69, 0), (69, .aload_n 0, 70, 0), (70, .getfield 12, 73, 0), (73, .getfield 68, 76, 0), (76, .iload_n 2, 77, 0), (77, .aaload, 78, 0), (78, .invokevirtual 71, 81, 0), (81, .aload_n 1, 82, 0), (82, .iload_n 2, 83, 0), (83, .iconst 1, 84, 0), (84, .iadd, 85, 0), (85, .putfield 43, 88, 0), (88, .iinc 2 1, 91, 0), (91, .goto (-44), 94, 47), (94, .return_, 95, 0)]
theorem T_X3_findBest_ok : T_X3_findBest.all (rowB cX3_findBest) = true := by decide +kernel
def th_X3_findBest : List (Nat × Nat) := []
def sw_X3_findBest : List (Nat × (List (Int32 × Nat) × Nat)) := []
theorem sw_X3_findBest_ok : ∀ q ∈ sw_X3_findBest, swS cX3_findBest q := fun _ h => absurd h List.not_mem_nil
def na_X3_findBest : List (Nat × Nat) := [(151, 2), (162, 1), (175, 2), (214, 2)]
def ca_X3_findBest {R' : Type} (F : Nat) : List (Nat × cFn R') := [(151, n_X2_lookAt (f_X2_lookAt F)), (162, n_X3_allOf (f_X3_allOf F)), (175, n_X2_find (f_X2_find F)), (214, n_X6_set (f_X6_set F))]
theorem ca_X3_findBest_ok {R' : Type} {q : cL} (hst : q.1.stackTraces = false) {D : Nat} (hD : 49 ≤ D) (F : Nat) : ∀ x ∈ (ca_X3_findBest (R' := R') F), 1 ≤ D ∧ ceS q RX3 (D - 1) x.1 x.2 := List.forall_mem_cons.mpr ⟨⟨by omega, n_X2_lookAt_ok (k := 50) (lw_good_of (tb_ok 770 (by decide +kernel)) rfl) (fun a0 a1 M r h => c_X2_lookAt hst (by omega) F a0 a1 M r h)⟩, List.forall_mem_cons.mpr ⟨⟨by omega, n_X3_allOf_ok (k := 54) (lw_good_of (tb_ok 796 (by decide +kernel)) rfl) (fun a0 M r h => c_X3_allOf hst (by omega) F a0 M r h)⟩, List.forall_mem_cons.mpr ⟨⟨by omega, n_X2_find_ok (k := 58) (lw_good_of (tb_ok 800 (by decide +kernel)) rfl) (fun a0 a1 M r h => c_X2_find hst (by omega) F a0 a1 M r h)⟩, List.forall_mem_cons.mpr ⟨⟨by omega, n_X6_set_ok (k := 71) (lw_good_of (tb_ok 943 (by decide +kernel)) rfl) (fun a0 a1 M r h => c_X6_set hst (by omega) F a0 a1 M r h)⟩, fun _ h => absurd h List.not_mem_nil⟩⟩⟩⟩
def kd_X3_findBest_47 (g : Nat → Nat → Int32 → cM → Option (cM)) : cKf (cM) := fun vs st M => (lR vs 0).bind fun x0 => (lR vs 1).bind fun x1 => (lI vs 2).bind fun x2 => match st with
  | [] => g x0 x1 x2 M
  | _ => none
theorem kf_X3_findBest_47 {X : cCtx} {o : cO} {r : cM} {g : Nat → Nat → Int32 → cM → Option (cM)} (hg : ∀ x0 x1 x2 M, g x0 x1 x2 M = some r → WX X 3 o 47 [some (.ref x0), some (.ref x1), some (.int x2)] [] M) : ∀ vs st M, kd_X3_findBest_47 g vs st M = some r → WX X 3 o 47 vs st M := by
  intro vs st M h
  unfold kd_X3_findBest_47 at h
  obtain ⟨x0, h0, h⟩ := Option.bind_eq_some_iff.mp h
  obtain ⟨x1, h1, h⟩ := Option.bind_eq_some_iff.mp h
  obtain ⟨x2, h2, h⟩ := Option.bind_eq_some_iff.mp h
  split at h
  · exact WX_weak (hg _ _ _ _ h) rfl ⟨lR_of h0, lR_of h1, lI_of h2, trivial⟩
  · cases h
theorem e_X3_findBest_47 (F : Nat) (t47 : Nat → Nat → Int32 → cM → Option (cM)) (x0 : Nat) (x1 : Nat) (x2 : Int32) (M : cM) : b_X3_findBest_47 F t47 x0 x1 x2 M = run T_X3_findBest P_RX3 false 5 (naL na_X3_findBest) (caL (ca_X3_findBest F)) (lkN th_X3_findBest) (lkN sw_X3_findBest) krV kxN (spL [47]) (KL [(47, kd_X3_findBest_47 t47)]) 54 47 [some (.ref x0), some (.ref x1), some (.int x2)] [] M := rfl
theorem ok_X3_findBest_47 {X : cCtx} {D : Nat} {r : cM} (G : FX X 3 (eV r) cX3_findBest RX3 5 D) {F : Nat} (hca : ∀ x ∈ (ca_X3_findBest (R' := cM) F), 1 ≤ D ∧ ceS X.1 RX3 (D - 1) x.1 x.2) (n : Nat) : ∀ x0 x1 x2 M, f_X3_findBest_47 F n x0 x1 x2 M = some r → WX X 3 (eV r) 47 [some (.ref x0), some (.ref x1), some (.int x2)] [] M := by
  induction n with
  | zero => intro x0 x1 x2 M h; cases h
  | succ n ih =>
    intro x0 x1 x2 M h
    exact seg_ok G P_RX3_ok T_X3_findBest_ok hca (fun _ h => absurd h List.not_mem_nil) sw_X3_findBest_ok krV_ok (kxN_ok (f := eV)) (List.forall_mem_cons.mpr ⟨kf_X3_findBest_47 (ih), fun _ h => absurd h List.not_mem_nil⟩) ((e_X3_findBest_47 F (f_X3_findBest_47 F n) x0 x1 x2 M).symm.trans h)
theorem e_X3_findBest_0 (F : Nat) (t47 : Nat → Nat → Int32 → cM → Option (cM)) (x0 : Nat) (x1 : Nat) (M : cM) : b_X3_findBest_0 F t47 x0 x1 M = run T_X3_findBest P_RX3 false 5 (naL na_X3_findBest) (caL (ca_X3_findBest F)) (lkN th_X3_findBest) (lkN sw_X3_findBest) krV kxN (spL [47]) (KL [(47, kd_X3_findBest_47 t47)]) 54 0 [some (.ref x0), some (.ref x1), none] [] M := rfl
theorem ok_X3_findBest_0 {X : cCtx} {D : Nat} {r : cM} (G : FX X 3 (eV r) cX3_findBest RX3 5 D) {F : Nat} (hca : ∀ x ∈ (ca_X3_findBest (R' := cM) F), 1 ≤ D ∧ ceS X.1 RX3 (D - 1) x.1 x.2) : ∀ x0 x1 M, f_X3_findBest_0 F x0 x1 M = some r → WX X 3 (eV r) 0 [some (.ref x0), some (.ref x1), none] [] M := by
  intro x0 x1 M h
  exact seg_ok G P_RX3_ok T_X3_findBest_ok hca (fun _ h => absurd h List.not_mem_nil) sw_X3_findBest_ok krV_ok (kxN_ok (f := eV)) (List.forall_mem_cons.mpr ⟨kf_X3_findBest_47 (ok_X3_findBest_47 G hca F), fun _ h => absurd h List.not_mem_nil⟩) ((e_X3_findBest_0 F (f_X3_findBest_47 F F) x0 x1 M).symm.trans h)
theorem c_X3_findBest {q : cL} (hst : q.1.stackTraces = false) {D : Nat} (hD : 49 ≤ D) (F : Nat) (a0 : Nat) (a1 : Nat) (M : cM) (r : cM) (h : f_X3_findBest F a0 a1 M = some r) : CTx q yX3_findBest (.code yX3_findBest cX3_findBest 3 none) D [.ref a0, .ref a1] M (eV r) ∧ ∃ fs, M[a0]? = some (.inr (2, fs)) := by
  unfold f_X3_findBest at h
  split at h
  · next hi => exact ⟨CTx_of (own := RX3) (rk := 5) hst (by decide +kernel) rfl (rfl) (Nat.le_of_ble_eq_true rfl) (fun X hX G => by subst hX; exact ok_X3_findBest_0 G (ca_X3_findBest_ok hst hD F) a0 a1 M h), isC_of hi⟩
  · cases h
def n_X3_findBest {R' : Type} (f : Nat → Nat → cM → Option (cM)) : cFn R' := fun as M κ κx => match as with
  | [.ref a0, .ref a1] => (f a0 a1 M).bind fun p => κ none p
  | _ => none
theorem w_X3_findBest : ∀ w ∈ [Cond.instanceMethod yX3_findBest, .selects yX3_findBest.cls yX3_findBest yX3_findBest, .initialized yX3_findBest.cls, .code yX3_findBest cX3_findBest 3 none], w ∈ lw_good := List.forall_mem_cons.mpr ⟨lw_good_of (tb_ok 767 (by decide +kernel)) rfl, List.forall_mem_cons.mpr ⟨lw_good_of (tb_ok 768 (by decide +kernel)) rfl, List.forall_mem_cons.mpr ⟨lw_good_of (tb_ok 7 (by decide +kernel)) rfl, List.forall_mem_cons.mpr ⟨lw_good_of (tb_ok 769 (by decide +kernel)) rfl, fun _ h => absurd h List.not_mem_nil⟩⟩⟩⟩
theorem n_X3_findBest_ok {R' : Type} {q : cL} {own : String} {d k : Nat} {f : Nat → Nat → cM → Option (cM)} (hl : Cond.methodLink own k yX3_findBest ∈ lw_good) (hf : ∀ a0 a1 M r, f a0 a1 M = some r → CTx q yX3_findBest (.code yX3_findBest cX3_findBest 3 none) d [.ref a0, .ref a1] M (eV r) ∧ ∃ fs, M[a0]? = some (.inr (2, fs))) : ceS q own d (3 * k + 1) (n_X3_findBest (R' := R') f) := by
  intro as M κ κx r h
  unfold n_X3_findBest at h
  split at h
  · obtain ⟨p, h1, h2⟩ := Option.bind_eq_some_iff.mp h
    obtain ⟨hc, fs, ha⟩ := hf _ _ _ _ h1
    exact ⟨eV p, fun _ => h2, fun hne => absurd rfl hne, Or.inr (Or.inl ⟨yX3_findBest, cX3_findBest, 3, none, k, 1, _, _, 2, TX3, 5, fs, rfl, rfl, hc, ha, rfl, List.forall_mem_cons.mpr ⟨hl, w_X3_findBest⟩, ⟨rfl, by decide +kernel, by decide +kernel, by decide +kernel⟩, rfl, by decide⟩)⟩
  · cases h
-- PatchbayScript$Program.makes(LPatchbayScript$Text;LPatchbayScript$Text;)Z
def T_X6_makes : List cRow := [(0, .aload_n 2, 1, 0), (1, .invokevirtual 31, 4, 0), (4, .iconst 1, 5, 0), (5, .istore_n 3, 6, 0), (6, .iconst 0, 7, 0), (7, .istore 4, 9, 0), (9, .iload 4, 11, 0), (11, .aload_n 0, 12, 0), (12, .getfield 15, 15, 0), (15, .if_icmp .ge 99, 18, 114), (18, .iload 4, 20, 0), (20, .iconst 4, 21, 0), (21, .if_icmp .ge 93, 24, 114), (24, .iload_n 3, 25, 0), (25, .ifCond .eq 89, 28, 114), (28, .aload_n 0, 29, 0), (29, .getfield 9, 32, 0), (32, .iload 4, 34, 0), (34, .iaload, 35, 0), (35, .invokestatic 36, 38, 0), (38, .lookupswitch 57 #[(0, 26), (1, 41)], 39, 0), (64, .aload_n 0, 65, 0), (65, .getfield 9, 68, 0), (68, .iload 4, 70, 0), (70, .iaload, 71, 0), (71, .aload_n 2, 72, 0), (72, .invokestatic 39, 75, 0), (75, .istore_n 3, 76, 0), (76, .goto 32, 79, 108), (79, .aload_n 0, 80, 0), (80, .getfield 9, 83, 0), (83, .iload 4, 85, 0), (85, .iaload, 86, 0), (86, .aload_n 1, 87, 0), (87, .aload_n 2, 88, 0), (88, .invokestatic 43, 91, 0), (91, .istore_n 3, 92, 0), (92, .goto 16, 95, 108), (95, .aload_n 0, 96, 0), (96, .getfield 9, 99, 0), (99, .iload 4, 101, 0), (101, .iaload, 102, 0), (102, .aload_n 1, 103, 0), (103, .aload_n 2, 104, 0), (104, .invokestatic 47, 107, 0), (107, .istore_n 3, 108, 0), (108, .iinc 4 1, 111, 0), (111, .goto (-102), 114, 9), (114, .iload_n 3, 115, 0), (115, .ireturn, 116, 0)]
theorem T_X6_makes_ok : T_X6_makes.all (rowB cX6_makes) = true := by decide +kernel
def th_X6_makes : List (Nat × Nat) := []
def sw_X6_makes : List (Nat × (List (Int32 × Nat) × Nat)) := [(38, ([(0, 64), (1, 79)], 95))]
theorem sw_X6_makes_ok : ∀ q ∈ sw_X6_makes, swS cX6_makes q := List.forall_mem_cons.mpr ⟨⟨.lookupswitch 57 #[(0, 26), (1, 41)], 26, by decide +kernel⟩, fun _ h => absurd h List.not_mem_nil⟩
def na_X6_makes : List (Nat × Nat) := [(94, 1), (108, 1), (117, 2), (129, 3), (141, 3)]
def ca_X6_makes {R' : Type} (F : Nat) : List (Nat × cFn R') := [(94, n_X10_clear (f_X10_clear F)), (108, n_X0_kindOf (f_X0_kindOf F)), (117, n_X0_makesConst (f_X0_makesConst F)), (129, n_X0_makesCut (f_X0_makesCut F)), (141, n_X0_makesEach (f_X0_makesEach F))]
theorem ca_X6_makes_ok {R' : Type} {q : cL} (hst : q.1.stackTraces = false) {D : Nat} (hD : 3 ≤ D) (F : Nat) : ∀ x ∈ (ca_X6_makes (R' := R') F), 1 ≤ D ∧ ceS q RX6 (D - 1) x.1 x.2 := List.forall_mem_cons.mpr ⟨⟨by omega, n_X10_clear_ok (k := 31) (lw_good_of (tb_ok 580 (by decide +kernel)) rfl) (fun a0 M r h => c_X10_clear hst (by omega) F a0 M r h)⟩, List.forall_mem_cons.mpr ⟨⟨by omega, n_X0_kindOf_ok (k := 36) (lw_good_of (tb_ok 581 (by decide +kernel)) rfl) (fun a0 M r h => c_X0_kindOf hst (by omega) F a0 M r h)⟩, List.forall_mem_cons.mpr ⟨⟨by omega, n_X0_makesConst_ok (k := 39) (lw_good_of (tb_ok 585 (by decide +kernel)) rfl) (fun a0 a1 M r h => c_X0_makesConst hst (by omega) F a0 a1 M r h)⟩, List.forall_mem_cons.mpr ⟨⟨by omega, n_X0_makesCut_ok (k := 43) (lw_good_of (tb_ok 595 (by decide +kernel)) rfl) (fun a0 a1 a2 M r h => c_X0_makesCut hst (by omega) F a0 a1 a2 M r h)⟩, List.forall_mem_cons.mpr ⟨⟨by omega, n_X0_makesEach_ok (k := 47) (lw_good_of (tb_ok 623 (by decide +kernel)) rfl) (fun a0 a1 a2 M r h => c_X0_makesEach hst (by omega) F a0 a1 a2 M r h)⟩, fun _ h => absurd h List.not_mem_nil⟩⟩⟩⟩⟩
def kd_X6_makes_9 (g : Nat → Nat → Nat → Int32 → Int32 → cM → Option (Int32 × cM)) : cKf (Int32 × cM) := fun vs st M => (lR vs 0).bind fun x0 => (lR vs 1).bind fun x1 => (lR vs 2).bind fun x2 => (lI vs 3).bind fun x3 => (lI vs 4).bind fun x4 => match st with
  | [] => g x0 x1 x2 x3 x4 M
  | _ => none
theorem kf_X6_makes_9 {X : cCtx} {o : cO} {r : Int32 × cM} {g : Nat → Nat → Nat → Int32 → Int32 → cM → Option (Int32 × cM)} (hg : ∀ x0 x1 x2 x3 x4 M, g x0 x1 x2 x3 x4 M = some r → WX X 5 o 9 [some (.ref x0), some (.ref x1), some (.ref x2), some (.int x3), some (.int x4)] [] M) : ∀ vs st M, kd_X6_makes_9 g vs st M = some r → WX X 5 o 9 vs st M := by
  intro vs st M h
  unfold kd_X6_makes_9 at h
  obtain ⟨x0, h0, h⟩ := Option.bind_eq_some_iff.mp h
  obtain ⟨x1, h1, h⟩ := Option.bind_eq_some_iff.mp h
  obtain ⟨x2, h2, h⟩ := Option.bind_eq_some_iff.mp h
  obtain ⟨x3, h3, h⟩ := Option.bind_eq_some_iff.mp h
  obtain ⟨x4, h4, h⟩ := Option.bind_eq_some_iff.mp h
  split at h
  · exact WX_weak (hg _ _ _ _ _ _ h) rfl ⟨lR_of h0, lR_of h1, lR_of h2, lI_of h3, lI_of h4, trivial⟩
  · cases h
theorem e_X6_makes_9 (F : Nat) (t9 : Nat → Nat → Nat → Int32 → Int32 → cM → Option (Int32 × cM)) (x0 : Nat) (x1 : Nat) (x2 : Nat) (x3 : Int32) (x4 : Int32) (M : cM) : b_X6_makes_9 F t9 x0 x1 x2 x3 x4 M = run T_X6_makes P_RX6 false 1 (naL na_X6_makes) (caL (ca_X6_makes F)) (lkN th_X6_makes) (lkN sw_X6_makes) krI kxN (spL [9]) (KL [(9, kd_X6_makes_9 t9)]) 53 9 [some (.ref x0), some (.ref x1), some (.ref x2), some (.int x3), some (.int x4)] [] M := rfl
theorem ok_X6_makes_9 {X : cCtx} {D : Nat} {r : Int32 × cM} (G : FX X 5 (eI r) cX6_makes RX6 1 D) {F : Nat} (hca : ∀ x ∈ (ca_X6_makes (R' := Int32 × cM) F), 1 ≤ D ∧ ceS X.1 RX6 (D - 1) x.1 x.2) (n : Nat) : ∀ x0 x1 x2 x3 x4 M, f_X6_makes_9 F n x0 x1 x2 x3 x4 M = some r → WX X 5 (eI r) 9 [some (.ref x0), some (.ref x1), some (.ref x2), some (.int x3), some (.int x4)] [] M := by
  induction n with
  | zero => intro x0 x1 x2 x3 x4 M h; cases h
  | succ n ih =>
    intro x0 x1 x2 x3 x4 M h
    exact seg_ok G P_RX6_ok T_X6_makes_ok hca (fun _ h => absurd h List.not_mem_nil) sw_X6_makes_ok krI_ok (kxN_ok (f := eI)) (List.forall_mem_cons.mpr ⟨kf_X6_makes_9 (ih), fun _ h => absurd h List.not_mem_nil⟩) ((e_X6_makes_9 F (f_X6_makes_9 F n) x0 x1 x2 x3 x4 M).symm.trans h)
theorem e_X6_makes_0 (F : Nat) (t9 : Nat → Nat → Nat → Int32 → Int32 → cM → Option (Int32 × cM)) (x0 : Nat) (x1 : Nat) (x2 : Nat) (M : cM) : b_X6_makes_0 F t9 x0 x1 x2 M = run T_X6_makes P_RX6 false 1 (naL na_X6_makes) (caL (ca_X6_makes F)) (lkN th_X6_makes) (lkN sw_X6_makes) krI kxN (spL [9]) (KL [(9, kd_X6_makes_9 t9)]) 53 0 [some (.ref x0), some (.ref x1), some (.ref x2), none, none] [] M := rfl
theorem ok_X6_makes_0 {X : cCtx} {D : Nat} {r : Int32 × cM} (G : FX X 5 (eI r) cX6_makes RX6 1 D) {F : Nat} (hca : ∀ x ∈ (ca_X6_makes (R' := Int32 × cM) F), 1 ≤ D ∧ ceS X.1 RX6 (D - 1) x.1 x.2) : ∀ x0 x1 x2 M, f_X6_makes_0 F x0 x1 x2 M = some r → WX X 5 (eI r) 0 [some (.ref x0), some (.ref x1), some (.ref x2), none, none] [] M := by
  intro x0 x1 x2 M h
  exact seg_ok G P_RX6_ok T_X6_makes_ok hca (fun _ h => absurd h List.not_mem_nil) sw_X6_makes_ok krI_ok (kxN_ok (f := eI)) (List.forall_mem_cons.mpr ⟨kf_X6_makes_9 (ok_X6_makes_9 G hca F), fun _ h => absurd h List.not_mem_nil⟩) ((e_X6_makes_0 F (f_X6_makes_9 F F) x0 x1 x2 M).symm.trans h)
theorem c_X6_makes {q : cL} (hst : q.1.stackTraces = false) {D : Nat} (hD : 3 ≤ D) (F : Nat) (a0 : Nat) (a1 : Nat) (a2 : Nat) (M : cM) (r : Int32 × cM) (h : f_X6_makes F a0 a1 a2 M = some r) : CTx q yX6_makes (.code yX6_makes cX6_makes 5 (some .boolean)) D [.ref a0, .ref a1, .ref a2] M (eI r) ∧ ∃ fs, M[a0]? = some (.inr (5, fs)) := by
  unfold f_X6_makes at h
  split at h
  · next hi => exact ⟨CTx_of (own := RX6) (rk := 1) hst (by decide +kernel) rfl (rfl) (Nat.le_of_ble_eq_true rfl) (fun X hX G => by subst hX; exact ok_X6_makes_0 G (ca_X6_makes_ok hst hD F) a0 a1 a2 M h), isC_of hi⟩
  · cases h
def n_X6_makes {R' : Type} (f : Nat → Nat → Nat → cM → Option (Int32 × cM)) : cFn R' := fun as M κ κx => match as with
  | [.ref a0, .ref a1, .ref a2] => (f a0 a1 a2 M).bind fun p => κ (some (.int p.1)) p.2
  | _ => none
theorem w_X6_makes : ∀ w ∈ [Cond.instanceMethod yX6_makes, .selects yX6_makes.cls yX6_makes yX6_makes, .initialized yX6_makes.cls, .code yX6_makes cX6_makes 5 (some .boolean)], w ∈ lw_good := List.forall_mem_cons.mpr ⟨lw_good_of (tb_ok 577 (by decide +kernel)) rfl, List.forall_mem_cons.mpr ⟨lw_good_of (tb_ok 578 (by decide +kernel)) rfl, List.forall_mem_cons.mpr ⟨lw_good_of (tb_ok 5 (by decide +kernel)) rfl, List.forall_mem_cons.mpr ⟨lw_good_of (tb_ok 579 (by decide +kernel)) rfl, fun _ h => absurd h List.not_mem_nil⟩⟩⟩⟩
theorem n_X6_makes_ok {R' : Type} {q : cL} {own : String} {d k : Nat} {f : Nat → Nat → Nat → cM → Option (Int32 × cM)} (hl : Cond.methodLink own k yX6_makes ∈ lw_good) (hf : ∀ a0 a1 a2 M r, f a0 a1 a2 M = some r → CTx q yX6_makes (.code yX6_makes cX6_makes 5 (some .boolean)) d [.ref a0, .ref a1, .ref a2] M (eI r) ∧ ∃ fs, M[a0]? = some (.inr (5, fs))) : ceS q own d (3 * k + 1) (n_X6_makes (R' := R') f) := by
  intro as M κ κx r h
  unfold n_X6_makes at h
  split at h
  · obtain ⟨p, h1, h2⟩ := Option.bind_eq_some_iff.mp h
    obtain ⟨hc, fs, ha⟩ := hf _ _ _ _ _ h1
    exact ⟨eI p, fun _ => h2, fun hne => absurd rfl hne, Or.inr (Or.inl ⟨yX6_makes, cX6_makes, 5, (some .boolean), k, 2, _, _, 5, TX6, 2, fs, rfl, rfl, hc, ha, rfl, List.forall_mem_cons.mpr ⟨hl, w_X6_makes⟩, ⟨rfl, by decide +kernel, by decide +kernel, by decide +kernel⟩, rfl, by decide⟩)⟩
  · cases h
-- PatchbayScript$Text.isLike(LPatchbayScript$Text;)Z
def T_X10_isLike : List cRow := [(0, .aload_n 0, 1, 0), (1, .getfield 21, 4, 0), (4, .aload_n 1, 5, 0), (5, .getfield 21, 8, 0), (8, .if_icmp .eq 5, 11, 13), (11, .iconst 0, 12, 0), (12, .ireturn, 13, 0), (13, .iconst 0, 14, 0), (14, .istore_n 2, 15, 0), (15, .iload_n 2, 16, 0), (16, .aload_n 0, 17, 0), (17, .getfield 21, 20, 0), (20, .if_icmp .ge 32, 23, 52), (23, .iload_n 2, 24, 0), (24, .bipush 20, 26, 0), (26, .if_icmp .ge 26, 29, 52), (29, .aload_n 0, 30, 0), (30, .getfield 11, 33, 0), (33, .iload_n 2, 34, 0), (34, .caload, 35, 0), (35, .aload_n 1, 36, 0), (36, .getfield 11, 39, 0), (39, .iload_n 2, 40, 0), (40, .caload, 41, 0), (41, .if_icmp .eq 5, 44, 46), (44, .iconst 0, 45, 0), (45, .ireturn, 46, 0), (46, .iinc 2 1, 49, 0), (49, .goto (-34), 52, 15), (52, .iconst 1, 53, 0), (53, .ireturn, 54, 0)]
theorem T_X10_isLike_ok : T_X10_isLike.all (rowB cX10_isLike) = true := by decide +kernel
def th_X10_isLike : List (Nat × Nat) := []
def sw_X10_isLike : List (Nat × (List (Int32 × Nat) × Nat)) := []
theorem sw_X10_isLike_ok : ∀ q ∈ sw_X10_isLike, swS cX10_isLike q := fun _ h => absurd h List.not_mem_nil
def na_X10_isLike : List (Nat × Nat) := []
def ca_X10_isLike {R' : Type} (F : Nat) : List (Nat × cFn R') := []
theorem ca_X10_isLike_ok {R' : Type} {q : cL} (hst : q.1.stackTraces = false) {D : Nat} (hD : 0 ≤ D) (F : Nat) : ∀ x ∈ (ca_X10_isLike (R' := R') F), 1 ≤ D ∧ ceS q RX10 (D - 1) x.1 x.2 := fun _ h => absurd h List.not_mem_nil
def kd_X10_isLike_15 (g : Nat → Nat → Int32 → cM → Option (Int32 × cM)) : cKf (Int32 × cM) := fun vs st M => (lR vs 0).bind fun x0 => (lR vs 1).bind fun x1 => (lI vs 2).bind fun x2 => match st with
  | [] => g x0 x1 x2 M
  | _ => none
theorem kf_X10_isLike_15 {X : cCtx} {o : cO} {r : Int32 × cM} {g : Nat → Nat → Int32 → cM → Option (Int32 × cM)} (hg : ∀ x0 x1 x2 M, g x0 x1 x2 M = some r → WX X 3 o 15 [some (.ref x0), some (.ref x1), some (.int x2)] [] M) : ∀ vs st M, kd_X10_isLike_15 g vs st M = some r → WX X 3 o 15 vs st M := by
  intro vs st M h
  unfold kd_X10_isLike_15 at h
  obtain ⟨x0, h0, h⟩ := Option.bind_eq_some_iff.mp h
  obtain ⟨x1, h1, h⟩ := Option.bind_eq_some_iff.mp h
  obtain ⟨x2, h2, h⟩ := Option.bind_eq_some_iff.mp h
  split at h
  · exact WX_weak (hg _ _ _ _ h) rfl ⟨lR_of h0, lR_of h1, lI_of h2, trivial⟩
  · cases h
theorem e_X10_isLike_15 (F : Nat) (t15 : Nat → Nat → Int32 → cM → Option (Int32 × cM)) (x0 : Nat) (x1 : Nat) (x2 : Int32) (M : cM) : b_X10_isLike_15 F t15 x0 x1 x2 M = run T_X10_isLike P_RX10 false 1 (naL na_X10_isLike) (caL (ca_X10_isLike F)) (lkN th_X10_isLike) (lkN sw_X10_isLike) krI kxN (spL [15]) (KL [(15, kd_X10_isLike_15 t15)]) 34 15 [some (.ref x0), some (.ref x1), some (.int x2)] [] M := rfl
theorem ok_X10_isLike_15 {X : cCtx} {D : Nat} {r : Int32 × cM} (G : FX X 3 (eI r) cX10_isLike RX10 1 D) {F : Nat} (hca : ∀ x ∈ (ca_X10_isLike (R' := Int32 × cM) F), 1 ≤ D ∧ ceS X.1 RX10 (D - 1) x.1 x.2) (n : Nat) : ∀ x0 x1 x2 M, f_X10_isLike_15 F n x0 x1 x2 M = some r → WX X 3 (eI r) 15 [some (.ref x0), some (.ref x1), some (.int x2)] [] M := by
  induction n with
  | zero => intro x0 x1 x2 M h; cases h
  | succ n ih =>
    intro x0 x1 x2 M h
    exact seg_ok G P_RX10_ok T_X10_isLike_ok hca (fun _ h => absurd h List.not_mem_nil) sw_X10_isLike_ok krI_ok (kxN_ok (f := eI)) (List.forall_mem_cons.mpr ⟨kf_X10_isLike_15 (ih), fun _ h => absurd h List.not_mem_nil⟩) ((e_X10_isLike_15 F (f_X10_isLike_15 F n) x0 x1 x2 M).symm.trans h)
theorem e_X10_isLike_0 (F : Nat) (t15 : Nat → Nat → Int32 → cM → Option (Int32 × cM)) (x0 : Nat) (x1 : Nat) (M : cM) : b_X10_isLike_0 F t15 x0 x1 M = run T_X10_isLike P_RX10 false 1 (naL na_X10_isLike) (caL (ca_X10_isLike F)) (lkN th_X10_isLike) (lkN sw_X10_isLike) krI kxN (spL [15]) (KL [(15, kd_X10_isLike_15 t15)]) 34 0 [some (.ref x0), some (.ref x1), none] [] M := rfl
theorem ok_X10_isLike_0 {X : cCtx} {D : Nat} {r : Int32 × cM} (G : FX X 3 (eI r) cX10_isLike RX10 1 D) {F : Nat} (hca : ∀ x ∈ (ca_X10_isLike (R' := Int32 × cM) F), 1 ≤ D ∧ ceS X.1 RX10 (D - 1) x.1 x.2) : ∀ x0 x1 M, f_X10_isLike_0 F x0 x1 M = some r → WX X 3 (eI r) 0 [some (.ref x0), some (.ref x1), none] [] M := by
  intro x0 x1 M h
  exact seg_ok G P_RX10_ok T_X10_isLike_ok hca (fun _ h => absurd h List.not_mem_nil) sw_X10_isLike_ok krI_ok (kxN_ok (f := eI)) (List.forall_mem_cons.mpr ⟨kf_X10_isLike_15 (ok_X10_isLike_15 G hca F), fun _ h => absurd h List.not_mem_nil⟩) ((e_X10_isLike_0 F (f_X10_isLike_15 F F) x0 x1 M).symm.trans h)
theorem c_X10_isLike {q : cL} (hst : q.1.stackTraces = false) {D : Nat} (hD : 0 ≤ D) (F : Nat) (a0 : Nat) (a1 : Nat) (M : cM) (r : Int32 × cM) (h : f_X10_isLike F a0 a1 M = some r) : CTx q yX10_isLike (.code yX10_isLike cX10_isLike 3 (some .boolean)) D [.ref a0, .ref a1] M (eI r) ∧ ∃ fs, M[a0]? = some (.inr (8, fs)) := by
  unfold f_X10_isLike at h
  split at h
  · next hi => exact ⟨CTx_of (own := RX10) (rk := 1) hst (by decide +kernel) rfl (rfl) (Nat.le_of_ble_eq_true rfl) (fun X hX G => by subst hX; exact ok_X10_isLike_0 G (ca_X10_isLike_ok hst hD F) a0 a1 M h), isC_of hi⟩
  · cases h
def n_X10_isLike {R' : Type} (f : Nat → Nat → cM → Option (Int32 × cM)) : cFn R' := fun as M κ κx => match as with
  | [.ref a0, .ref a1] => (f a0 a1 M).bind fun p => κ (some (.int p.1)) p.2
  | _ => none
theorem w_X10_isLike : ∀ w ∈ [Cond.instanceMethod yX10_isLike, .selects yX10_isLike.cls yX10_isLike yX10_isLike, .initialized yX10_isLike.cls, .code yX10_isLike cX10_isLike 3 (some .boolean)], w ∈ lw_good := List.forall_mem_cons.mpr ⟨lw_good_of (tb_ok 954 (by decide +kernel)) rfl, List.forall_mem_cons.mpr ⟨lw_good_of (tb_ok 955 (by decide +kernel)) rfl, List.forall_mem_cons.mpr ⟨lw_good_of (tb_ok 2 (by decide +kernel)) rfl, List.forall_mem_cons.mpr ⟨lw_good_of (tb_ok 956 (by decide +kernel)) rfl, fun _ h => absurd h List.not_mem_nil⟩⟩⟩⟩
theorem n_X10_isLike_ok {R' : Type} {q : cL} {own : String} {d k : Nat} {f : Nat → Nat → cM → Option (Int32 × cM)} (hl : Cond.methodLink own k yX10_isLike ∈ lw_good) (hf : ∀ a0 a1 M r, f a0 a1 M = some r → CTx q yX10_isLike (.code yX10_isLike cX10_isLike 3 (some .boolean)) d [.ref a0, .ref a1] M (eI r) ∧ ∃ fs, M[a0]? = some (.inr (8, fs))) : ceS q own d (3 * k + 1) (n_X10_isLike (R' := R') f) := by
  intro as M κ κx r h
  unfold n_X10_isLike at h
  split at h
  · obtain ⟨p, h1, h2⟩ := Option.bind_eq_some_iff.mp h
    obtain ⟨hc, fs, ha⟩ := hf _ _ _ _ h1
    exact ⟨eI p, fun _ => h2, fun hne => absurd rfl hne, Or.inr (Or.inl ⟨yX10_isLike, cX10_isLike, 3, (some .boolean), k, 1, _, _, 8, TX10, 3, fs, rfl, rfl, hc, ha, rfl, List.forall_mem_cons.mpr ⟨hl, w_X10_isLike⟩, ⟨rfl, by decide +kernel, by decide +kernel, by decide +kernel⟩, rfl, by decide⟩)⟩
  · cases h
-- PatchbayScript$Task.bears(LPatchbayScript$Program;LPatchbayScript$Text;)Z
def T_X9_bears : List cRow := [(0, .iconst 0, 1, 0), (1, .istore_n 3, 2, 0), (2, .iload_n 3, 3, 0), (3, .aload_n 0, 4, 0), (4, .getfield 66, 7, 0), (7, .if_icmp .ge 43, 10, 50), (10, .iload_n 3, 11, 0), (11, .iconst 4, 12, 0), (12, .if_icmp .ge 38, 15, 50), (15, .aload_n 1, 16, 0), (16, .aload_n 0, 17, 0), (17, .getfield 24, 20, 0), (20, .iload_n 3, 21, 0), (21, .aaload, 22, 0), (22, .aload_n 2, 23, 0), (23, .invokevirtual 69, 26, 0), (26, .ifCond .eq 18, 29, 44), (29, .aload_n 2, 30, 0), (30, .aload_n 0, 31, 0), (31, .getfield 27, 34, 0), (34, .iload_n 3, 35, 0), (35, .aaload, 36, 0), (36, .invokevirtual 73, 39, 0), (39, .ifCond .eq 5, 42, 44), (42, .iconst 0, 43, 0), (43, .ireturn, 44, 0), (44, .iinc 3 1, 47, 0), (47, .goto (-45), 50, 2), (50, .iconst 1, 51, 0), (51, .ireturn, 52, 0)]
theorem T_X9_bears_ok : T_X9_bears.all (rowB cX9_bears) = true := by decide +kernel
def th_X9_bears : List (Nat × Nat) := []
def sw_X9_bears : List (Nat × (List (Int32 × Nat) × Nat)) := []
theorem sw_X9_bears_ok : ∀ q ∈ sw_X9_bears, swS cX9_bears q := fun _ h => absurd h List.not_mem_nil
def na_X9_bears : List (Nat × Nat) := [(208, 3), (220, 2)]
def ca_X9_bears {R' : Type} (F : Nat) : List (Nat × cFn R') := [(208, n_X6_makes (f_X6_makes F)), (220, n_X10_isLike (f_X10_isLike F))]
theorem ca_X9_bears_ok {R' : Type} {q : cL} (hst : q.1.stackTraces = false) {D : Nat} (hD : 4 ≤ D) (F : Nat) : ∀ x ∈ (ca_X9_bears (R' := R') F), 1 ≤ D ∧ ceS q RX9 (D - 1) x.1 x.2 := List.forall_mem_cons.mpr ⟨⟨by omega, n_X6_makes_ok (k := 69) (lw_good_of (tb_ok 952 (by decide +kernel)) rfl) (fun a0 a1 a2 M r h => c_X6_makes hst (by omega) F a0 a1 a2 M r h)⟩, List.forall_mem_cons.mpr ⟨⟨by omega, n_X10_isLike_ok (k := 73) (lw_good_of (tb_ok 953 (by decide +kernel)) rfl) (fun a0 a1 M r h => c_X10_isLike hst (by omega) F a0 a1 M r h)⟩, fun _ h => absurd h List.not_mem_nil⟩⟩
def kd_X9_bears_2 (g : Nat → Nat → Nat → Int32 → cM → Option (Int32 × cM)) : cKf (Int32 × cM) := fun vs st M => (lR vs 0).bind fun x0 => (lR vs 1).bind fun x1 => (lR vs 2).bind fun x2 => (lI vs 3).bind fun x3 => match st with
  | [] => g x0 x1 x2 x3 M
  | _ => none
theorem kf_X9_bears_2 {X : cCtx} {o : cO} {r : Int32 × cM} {g : Nat → Nat → Nat → Int32 → cM → Option (Int32 × cM)} (hg : ∀ x0 x1 x2 x3 M, g x0 x1 x2 x3 M = some r → WX X 4 o 2 [some (.ref x0), some (.ref x1), some (.ref x2), some (.int x3)] [] M) : ∀ vs st M, kd_X9_bears_2 g vs st M = some r → WX X 4 o 2 vs st M := by
  intro vs st M h
  unfold kd_X9_bears_2 at h
  obtain ⟨x0, h0, h⟩ := Option.bind_eq_some_iff.mp h
  obtain ⟨x1, h1, h⟩ := Option.bind_eq_some_iff.mp h
  obtain ⟨x2, h2, h⟩ := Option.bind_eq_some_iff.mp h
  obtain ⟨x3, h3, h⟩ := Option.bind_eq_some_iff.mp h
  split at h
  · exact WX_weak (hg _ _ _ _ _ h) rfl ⟨lR_of h0, lR_of h1, lR_of h2, lI_of h3, trivial⟩
  · cases h
theorem e_X9_bears_2 (F : Nat) (t2 : Nat → Nat → Nat → Int32 → cM → Option (Int32 × cM)) (x0 : Nat) (x1 : Nat) (x2 : Nat) (x3 : Int32) (M : cM) : b_X9_bears_2 F t2 x0 x1 x2 x3 M = run T_X9_bears P_RX9 false 1 (naL na_X9_bears) (caL (ca_X9_bears F)) (lkN th_X9_bears) (lkN sw_X9_bears) krI kxN (spL [2]) (KL [(2, kd_X9_bears_2 t2)]) 33 2 [some (.ref x0), some (.ref x1), some (.ref x2), some (.int x3)] [] M := rfl
theorem ok_X9_bears_2 {X : cCtx} {D : Nat} {r : Int32 × cM} (G : FX X 4 (eI r) cX9_bears RX9 1 D) {F : Nat} (hca : ∀ x ∈ (ca_X9_bears (R' := Int32 × cM) F), 1 ≤ D ∧ ceS X.1 RX9 (D - 1) x.1 x.2) (n : Nat) : ∀ x0 x1 x2 x3 M, f_X9_bears_2 F n x0 x1 x2 x3 M = some r → WX X 4 (eI r) 2 [some (.ref x0), some (.ref x1), some (.ref x2), some (.int x3)] [] M := by
  induction n with
  | zero => intro x0 x1 x2 x3 M h; cases h
  | succ n ih =>
    intro x0 x1 x2 x3 M h
    exact seg_ok G P_RX9_ok T_X9_bears_ok hca (fun _ h => absurd h List.not_mem_nil) sw_X9_bears_ok krI_ok (kxN_ok (f := eI)) (List.forall_mem_cons.mpr ⟨kf_X9_bears_2 (ih), fun _ h => absurd h List.not_mem_nil⟩) ((e_X9_bears_2 F (f_X9_bears_2 F n) x0 x1 x2 x3 M).symm.trans h)
theorem e_X9_bears_0 (F : Nat) (t2 : Nat → Nat → Nat → Int32 → cM → Option (Int32 × cM)) (x0 : Nat) (x1 : Nat) (x2 : Nat) (M : cM) : b_X9_bears_0 F t2 x0 x1 x2 M = run T_X9_bears P_RX9 false 1 (naL na_X9_bears) (caL (ca_X9_bears F)) (lkN th_X9_bears) (lkN sw_X9_bears) krI kxN (spL [2]) (KL [(2, kd_X9_bears_2 t2)]) 33 0 [some (.ref x0), some (.ref x1), some (.ref x2), none] [] M := rfl
theorem ok_X9_bears_0 {X : cCtx} {D : Nat} {r : Int32 × cM} (G : FX X 4 (eI r) cX9_bears RX9 1 D) {F : Nat} (hca : ∀ x ∈ (ca_X9_bears (R' := Int32 × cM) F), 1 ≤ D ∧ ceS X.1 RX9 (D - 1) x.1 x.2) : ∀ x0 x1 x2 M, f_X9_bears_0 F x0 x1 x2 M = some r → WX X 4 (eI r) 0 [some (.ref x0), some (.ref x1), some (.ref x2), none] [] M := by
  intro x0 x1 x2 M h
  exact seg_ok G P_RX9_ok T_X9_bears_ok hca (fun _ h => absurd h List.not_mem_nil) sw_X9_bears_ok krI_ok (kxN_ok (f := eI)) (List.forall_mem_cons.mpr ⟨kf_X9_bears_2 (ok_X9_bears_2 G hca F), fun _ h => absurd h List.not_mem_nil⟩) ((e_X9_bears_0 F (f_X9_bears_2 F F) x0 x1 x2 M).symm.trans h)
theorem c_X9_bears {q : cL} (hst : q.1.stackTraces = false) {D : Nat} (hD : 4 ≤ D) (F : Nat) (a0 : Nat) (a1 : Nat) (a2 : Nat) (M : cM) (r : Int32 × cM) (h : f_X9_bears F a0 a1 a2 M = some r) : CTx q yX9_bears (.code yX9_bears cX9_bears 4 (some .boolean)) D [.ref a0, .ref a1, .ref a2] M (eI r) ∧ ∃ fs, M[a0]? = some (.inr (7, fs)) := by
  unfold f_X9_bears at h
  split at h
  · next hi => exact ⟨CTx_of (own := RX9) (rk := 1) hst (by decide +kernel) rfl (rfl) (Nat.le_of_ble_eq_true rfl) (fun X hX G => by subst hX; exact ok_X9_bears_0 G (ca_X9_bears_ok hst hD F) a0 a1 a2 M h), isC_of hi⟩
  · cases h
def n_X9_bears {R' : Type} (f : Nat → Nat → Nat → cM → Option (Int32 × cM)) : cFn R' := fun as M κ κx => match as with
  | [.ref a0, .ref a1, .ref a2] => (f a0 a1 a2 M).bind fun p => κ (some (.int p.1)) p.2
  | _ => none
theorem w_X9_bears : ∀ w ∈ [Cond.instanceMethod yX9_bears, .selects yX9_bears.cls yX9_bears yX9_bears, .initialized yX9_bears.cls, .code yX9_bears cX9_bears 4 (some .boolean)], w ∈ lw_good := List.forall_mem_cons.mpr ⟨lw_good_of (tb_ok 949 (by decide +kernel)) rfl, List.forall_mem_cons.mpr ⟨lw_good_of (tb_ok 950 (by decide +kernel)) rfl, List.forall_mem_cons.mpr ⟨lw_good_of (tb_ok 3 (by decide +kernel)) rfl, List.forall_mem_cons.mpr ⟨lw_good_of (tb_ok 951 (by decide +kernel)) rfl, fun _ h => absurd h List.not_mem_nil⟩⟩⟩⟩
theorem n_X9_bears_ok {R' : Type} {q : cL} {own : String} {d k : Nat} {f : Nat → Nat → Nat → cM → Option (Int32 × cM)} (hl : Cond.methodLink own k yX9_bears ∈ lw_good) (hf : ∀ a0 a1 a2 M r, f a0 a1 a2 M = some r → CTx q yX9_bears (.code yX9_bears cX9_bears 4 (some .boolean)) d [.ref a0, .ref a1, .ref a2] M (eI r) ∧ ∃ fs, M[a0]? = some (.inr (7, fs))) : ceS q own d (3 * k + 1) (n_X9_bears (R' := R') f) := by
  intro as M κ κx r h
  unfold n_X9_bears at h
  split at h
  · obtain ⟨p, h1, h2⟩ := Option.bind_eq_some_iff.mp h
    obtain ⟨hc, fs, ha⟩ := hf _ _ _ _ _ h1
    exact ⟨eI p, fun _ => h2, fun hne => absurd rfl hne, Or.inr (Or.inl ⟨yX9_bears, cX9_bears, 4, (some .boolean), k, 2, _, _, 7, TX9, 13, fs, rfl, rfl, hc, ha, rfl, List.forall_mem_cons.mpr ⟨hl, w_X9_bears⟩, ⟨rfl, by decide +kernel, by decide +kernel, by decide +kernel⟩, rfl, by decide⟩)⟩
  · cases h
-- PatchbayScript$Learnt.setOne(LPatchbayScript$Program;)V
def T_X4_setOne : List cRow := [(0, .aload_n 0, 1, 0), (1, .iconst 1, 2, 0), (2, .putfield 47, 5, 0), (5, .aload_n 0, 6, 0), (6, .iconst (-1), 7, 0), (7, .putfield 21, 10, 0), (10, .aload_n 0, 11, 0), (11, .getfield 12, 14, 0), (14, .aload_n 1, 15, 0), (15, .invokevirtual 51, 18, 0), (18, .return_, 19, 0)]
theorem T_X4_setOne_ok : T_X4_setOne.all (rowB cX4_setOne) = true := by decide +kernel
def th_X4_setOne : List (Nat × Nat) := []
def sw_X4_setOne : List (Nat × (List (Int32 × Nat) × Nat)) := []
theorem sw_X4_setOne_ok : ∀ q ∈ sw_X4_setOne, swS cX4_setOne q := fun _ h => absurd h List.not_mem_nil
def na_X4_setOne : List (Nat × Nat) := [(154, 2)]
def ca_X4_setOne {R' : Type} (F : Nat) : List (Nat × cFn R') := [(154, n_X6_set (f_X6_set F))]
theorem ca_X4_setOne_ok {R' : Type} {q : cL} (hst : q.1.stackTraces = false) {D : Nat} (hD : 1 ≤ D) (F : Nat) : ∀ x ∈ (ca_X4_setOne (R' := R') F), 1 ≤ D ∧ ceS q RX4 (D - 1) x.1 x.2 := List.forall_mem_cons.mpr ⟨⟨by omega, n_X6_set_ok (k := 51) (lw_good_of (tb_ok 546 (by decide +kernel)) rfl) (fun a0 a1 M r h => c_X6_set hst (by omega) F a0 a1 M r h)⟩, fun _ h => absurd h List.not_mem_nil⟩
theorem e_X4_setOne_0 (F : Nat) (x0 : Nat) (x1 : Nat) (M : cM) : b_X4_setOne_0 F x0 x1 M = run T_X4_setOne P_RX4 false 5 (naL na_X4_setOne) (caL (ca_X4_setOne F)) (lkN th_X4_setOne) (lkN sw_X4_setOne) krV kxN (spL []) (KL []) 14 0 [some (.ref x0), some (.ref x1)] [] M := rfl
theorem ok_X4_setOne_0 {X : cCtx} {D : Nat} {r : cM} (G : FX X 2 (eV r) cX4_setOne RX4 5 D) {F : Nat} (hca : ∀ x ∈ (ca_X4_setOne (R' := cM) F), 1 ≤ D ∧ ceS X.1 RX4 (D - 1) x.1 x.2) : ∀ x0 x1 M, f_X4_setOne_0 F x0 x1 M = some r → WX X 2 (eV r) 0 [some (.ref x0), some (.ref x1)] [] M := by
  intro x0 x1 M h
  exact seg_ok G P_RX4_ok T_X4_setOne_ok hca (fun _ h => absurd h List.not_mem_nil) sw_X4_setOne_ok krV_ok (kxN_ok (f := eV)) (fun _ h => absurd h List.not_mem_nil) ((e_X4_setOne_0 F x0 x1 M).symm.trans h)
theorem c_X4_setOne {q : cL} (hst : q.1.stackTraces = false) {D : Nat} (hD : 1 ≤ D) (F : Nat) (a0 : Nat) (a1 : Nat) (M : cM) (r : cM) (h : f_X4_setOne F a0 a1 M = some r) : CTx q yX4_setOne (.code yX4_setOne cX4_setOne 2 none) D [.ref a0, .ref a1] M (eV r) ∧ ∃ fs, M[a0]? = some (.inr (3, fs)) := by
  unfold f_X4_setOne at h
  split at h
  · next hi => exact ⟨CTx_of (own := RX4) (rk := 5) hst (by decide +kernel) rfl (rfl) (Nat.le_of_ble_eq_true rfl) (fun X hX G => by subst hX; exact ok_X4_setOne_0 G (ca_X4_setOne_ok hst hD F) a0 a1 M h), isC_of hi⟩
  · cases h
def n_X4_setOne {R' : Type} (f : Nat → Nat → cM → Option (cM)) : cFn R' := fun as M κ κx => match as with
  | [.ref a0, .ref a1] => (f a0 a1 M).bind fun p => κ none p
  | _ => none
theorem w_X4_setOne : ∀ w ∈ [Cond.instanceMethod yX4_setOne, .selects yX4_setOne.cls yX4_setOne yX4_setOne, .initialized yX4_setOne.cls, .code yX4_setOne cX4_setOne 2 none], w ∈ lw_good := List.forall_mem_cons.mpr ⟨lw_good_of (tb_ok 958 (by decide +kernel)) rfl, List.forall_mem_cons.mpr ⟨lw_good_of (tb_ok 959 (by decide +kernel)) rfl, List.forall_mem_cons.mpr ⟨lw_good_of (tb_ok 4 (by decide +kernel)) rfl, List.forall_mem_cons.mpr ⟨lw_good_of (tb_ok 960 (by decide +kernel)) rfl, fun _ h => absurd h List.not_mem_nil⟩⟩⟩⟩
theorem n_X4_setOne_ok {R' : Type} {q : cL} {own : String} {d k : Nat} {f : Nat → Nat → cM → Option (cM)} (hl : Cond.methodLink own k yX4_setOne ∈ lw_good) (hf : ∀ a0 a1 M r, f a0 a1 M = some r → CTx q yX4_setOne (.code yX4_setOne cX4_setOne 2 none) d [.ref a0, .ref a1] M (eV r) ∧ ∃ fs, M[a0]? = some (.inr (3, fs))) : ceS q own d (3 * k + 1) (n_X4_setOne (R' := R') f) := by
  intro as M κ κx r h
  unfold n_X4_setOne at h
  split at h
  · obtain ⟨p, h1, h2⟩ := Option.bind_eq_some_iff.mp h
    obtain ⟨hc, fs, ha⟩ := hf _ _ _ _ h1
    exact ⟨eV p, fun _ => h2, fun hne => absurd rfl hne, Or.inr (Or.inl ⟨yX4_setOne, cX4_setOne, 2, none, k, 1, _, _, 3, TX4, 4, fs, rfl, rfl, hc, ha, rfl, List.forall_mem_cons.mpr ⟨hl, w_X4_setOne⟩, ⟨rfl, by decide +kernel, by decide +kernel, by decide +kernel⟩, rfl, by decide⟩)⟩
  · cases h
